section
-- ===== PART A: goes FIRST, ahead of the names: the tables' words, and 'selects' of the private methods out of them =====
/-- a private method of a class that the tables say can be made, by its rows of tables_1 -/
def lw_okq (q : MethodName × Nat) : Prop := (q.1.cls ≠ "java/lang/invoke/MethodHandle" ∧ q.1.cls ≠ "java/lang/invoke/VarHandle") ∧ Cond.instantiable q.1.cls q.2 ∈ tables_1 ∧ Cond.privateMethod q.1 ∈ tables_1 ∧ Cond.instanceMethod q.1 ∈ tables_1
theorem lw_p0 : lw_okq (⟨"GapTellings", "layText", "()V"⟩, 13) := ⟨⟨by decide +kernel, by decide +kernel⟩, List.mem_of_getElem? (i := 20) (by decide +kernel), List.mem_of_getElem? (i := 313) (by decide +kernel), List.mem_of_getElem? (i := 314) (by decide +kernel)⟩
theorem lw_p1 : lw_okq (⟨"GapTellings", "filmChanged", "()V"⟩, 13) := ⟨⟨by decide +kernel, by decide +kernel⟩, List.mem_of_getElem? (i := 20) (by decide +kernel), List.mem_of_getElem? (i := 439) (by decide +kernel), List.mem_of_getElem? (i := 440) (by decide +kernel)⟩
theorem lw_p2 : lw_okq (⟨"GapTellings", "hasSound", "(I)Z"⟩, 13) := ⟨⟨by decide +kernel, by decide +kernel⟩, List.mem_of_getElem? (i := 20) (by decide +kernel), List.mem_of_getElem? (i := 566) (by decide +kernel), List.mem_of_getElem? (i := 567) (by decide +kernel)⟩
theorem lw_p3 : lw_okq (⟨"GapTellings", "hasPicture", "(I)Z"⟩, 13) := ⟨⟨by decide +kernel, by decide +kernel⟩, List.mem_of_getElem? (i := 20) (by decide +kernel), List.mem_of_getElem? (i := 578) (by decide +kernel), List.mem_of_getElem? (i := 579) (by decide +kernel)⟩
theorem lw_p4 : lw_okq (⟨"GapTellings", "hasVersion", "(II)Z"⟩, 13) := ⟨⟨by decide +kernel, by decide +kernel⟩, List.mem_of_getElem? (i := 20) (by decide +kernel), List.mem_of_getElem? (i := 587) (by decide +kernel), List.mem_of_getElem? (i := 588) (by decide +kernel)⟩
theorem lw_p5 : lw_okq (⟨"GapTellings", "hasTick", "(I)Z"⟩, 13) := ⟨⟨by decide +kernel, by decide +kernel⟩, List.mem_of_getElem? (i := 20) (by decide +kernel), List.mem_of_getElem? (i := 591) (by decide +kernel), List.mem_of_getElem? (i := 592) (by decide +kernel)⟩
theorem lw_p6 : lw_okq (⟨"GapTellings", "findBest", "()V"⟩, 13) := ⟨⟨by decide +kernel, by decide +kernel⟩, List.mem_of_getElem? (i := 20) (by decide +kernel), List.mem_of_getElem? (i := 637) (by decide +kernel), List.mem_of_getElem? (i := 638) (by decide +kernel)⟩
theorem lw_p7 : lw_okq (⟨"GapTellings", "ticksOpenNow", "(II)I"⟩, 13) := ⟨⟨by decide +kernel, by decide +kernel⟩, List.mem_of_getElem? (i := 20) (by decide +kernel), List.mem_of_getElem? (i := 709) (by decide +kernel), List.mem_of_getElem? (i := 710) (by decide +kernel)⟩
theorem lw_p8 : lw_okq (⟨"GapTellingsModel", "clears", "()V"⟩, 29) := ⟨⟨by decide +kernel, by decide +kernel⟩, List.mem_of_getElem? (i := 819) (by decide +kernel), List.mem_of_getElem? (i := 825) (by decide +kernel), List.mem_of_getElem? (i := 826) (by decide +kernel)⟩
theorem lw_p9 : lw_okq (⟨"GapTellingsModel", "reads", "()I"⟩, 29) := ⟨⟨by decide +kernel, by decide +kernel⟩, List.mem_of_getElem? (i := 819) (by decide +kernel), List.mem_of_getElem? (i := 929) (by decide +kernel), List.mem_of_getElem? (i := 930) (by decide +kernel)⟩
theorem lw_p10 : lw_okq (⟨"GapTellingsModel", "readsItem", "(II)Z"⟩, 29) := ⟨⟨by decide +kernel, by decide +kernel⟩, List.mem_of_getElem? (i := 819) (by decide +kernel), List.mem_of_getElem? (i := 933) (by decide +kernel), List.mem_of_getElem? (i := 934) (by decide +kernel)⟩
theorem lw_p11 : lw_okq (⟨"GapTellingsModel", "number", "(IIII)Z"⟩, 29) := ⟨⟨by decide +kernel, by decide +kernel⟩, List.mem_of_getElem? (i := 819) (by decide +kernel), List.mem_of_getElem? (i := 937) (by decide +kernel), List.mem_of_getElem? (i := 938) (by decide +kernel)⟩
theorem lw_p12 : lw_okq (⟨"GapTellingsModel", "isFigure", "(I)Z"⟩, 29) := ⟨⟨by decide +kernel, by decide +kernel⟩, List.mem_of_getElem? (i := 819) (by decide +kernel), List.mem_of_getElem? (i := 941) (by decide +kernel), List.mem_of_getElem? (i := 942) (by decide +kernel)⟩
theorem lw_p13 : lw_okq (⟨"GapTellingsModel", "letterAt", "(I)I"⟩, 29) := ⟨⟨by decide +kernel, by decide +kernel⟩, List.mem_of_getElem? (i := 819) (by decide +kernel), List.mem_of_getElem? (i := 945) (by decide +kernel), List.mem_of_getElem? (i := 946) (by decide +kernel)⟩
theorem lw_p14 : lw_okq (⟨"GapTellingsModel", "readsSound", "(II)Z"⟩, 29) := ⟨⟨by decide +kernel, by decide +kernel⟩, List.mem_of_getElem? (i := 819) (by decide +kernel), List.mem_of_getElem? (i := 952) (by decide +kernel), List.mem_of_getElem? (i := 953) (by decide +kernel)⟩
theorem lw_p15 : lw_okq (⟨"GapTellingsModel", "more", "(III)Z"⟩, 29) := ⟨⟨by decide +kernel, by decide +kernel⟩, List.mem_of_getElem? (i := 819) (by decide +kernel), List.mem_of_getElem? (i := 956) (by decide +kernel), List.mem_of_getElem? (i := 957) (by decide +kernel)⟩
def lw_privs_1 : List (MethodName × Nat) := [(⟨"GapTellings", "layText", "()V"⟩, 13), (⟨"GapTellings", "filmChanged", "()V"⟩, 13), (⟨"GapTellings", "hasSound", "(I)Z"⟩, 13), (⟨"GapTellings", "hasPicture", "(I)Z"⟩, 13), (⟨"GapTellings", "hasVersion", "(II)Z"⟩, 13), (⟨"GapTellings", "hasTick", "(I)Z"⟩, 13), (⟨"GapTellings", "findBest", "()V"⟩, 13), (⟨"GapTellings", "ticksOpenNow", "(II)I"⟩, 13), (⟨"GapTellingsModel", "clears", "()V"⟩, 29), (⟨"GapTellingsModel", "reads", "()I"⟩, 29), (⟨"GapTellingsModel", "readsItem", "(II)Z"⟩, 29), (⟨"GapTellingsModel", "number", "(IIII)Z"⟩, 29), (⟨"GapTellingsModel", "isFigure", "(I)Z"⟩, 29), (⟨"GapTellingsModel", "letterAt", "(I)I"⟩, 29), (⟨"GapTellingsModel", "readsSound", "(II)Z"⟩, 29), (⟨"GapTellingsModel", "more", "(III)Z"⟩, 29)]
theorem lw_r1 : ∀ q ∈ lw_privs_1, lw_okq q := List.forall_mem_cons.mpr ⟨lw_p0, List.forall_mem_cons.mpr ⟨lw_p1, List.forall_mem_cons.mpr ⟨lw_p2, List.forall_mem_cons.mpr ⟨lw_p3, List.forall_mem_cons.mpr ⟨lw_p4, List.forall_mem_cons.mpr ⟨lw_p5, List.forall_mem_cons.mpr ⟨lw_p6, List.forall_mem_cons.mpr ⟨lw_p7, List.forall_mem_cons.mpr ⟨lw_p8, List.forall_mem_cons.mpr ⟨lw_p9, List.forall_mem_cons.mpr ⟨lw_p10, List.forall_mem_cons.mpr ⟨lw_p11, List.forall_mem_cons.mpr ⟨lw_p12, List.forall_mem_cons.mpr ⟨lw_p13, List.forall_mem_cons.mpr ⟨lw_p14, List.forall_mem_cons.mpr ⟨lw_p15, fun _ h => absurd h List.not_mem_nil⟩⟩⟩⟩⟩⟩⟩⟩⟩⟩⟩⟩⟩⟩⟩⟩
theorem lw_p16 : lw_okq (⟨"GapTellingsModel", "readsPicture", "(I)Z"⟩, 29) := ⟨⟨by decide +kernel, by decide +kernel⟩, List.mem_of_getElem? (i := 819) (by decide +kernel), List.mem_of_getElem? (i := 960) (by decide +kernel), List.mem_of_getElem? (i := 961) (by decide +kernel)⟩
theorem lw_p17 : lw_okq (⟨"GapTellingsModel", "readsNeed", "(I)Z"⟩, 29) := ⟨⟨by decide +kernel, by decide +kernel⟩, List.mem_of_getElem? (i := 819) (by decide +kernel), List.mem_of_getElem? (i := 964) (by decide +kernel), List.mem_of_getElem? (i := 965) (by decide +kernel)⟩
theorem lw_p18 : lw_okq (⟨"GapTellingsModel", "hears", "()V"⟩, 29) := ⟨⟨by decide +kernel, by decide +kernel⟩, List.mem_of_getElem? (i := 819) (by decide +kernel), List.mem_of_getElem? (i := 984) (by decide +kernel), List.mem_of_getElem? (i := 985) (by decide +kernel)⟩
theorem lw_p19 : lw_okq (⟨"GapTellingsModel", "whyNot", "(III)I"⟩, 29) := ⟨⟨by decide +kernel, by decide +kernel⟩, List.mem_of_getElem? (i := 819) (by decide +kernel), List.mem_of_getElem? (i := 988) (by decide +kernel), List.mem_of_getElem? (i := 989) (by decide +kernel)⟩
theorem lw_p20 : lw_okq (⟨"GapTellingsModel", "whyByFilm", "(III)I"⟩, 29) := ⟨⟨by decide +kernel, by decide +kernel⟩, List.mem_of_getElem? (i := 819) (by decide +kernel), List.mem_of_getElem? (i := 992) (by decide +kernel), List.mem_of_getElem? (i := 993) (by decide +kernel)⟩
theorem lw_p21 : lw_okq (⟨"GapTellingsModel", "wide", "(II)I"⟩, 29) := ⟨⟨by decide +kernel, by decide +kernel⟩, List.mem_of_getElem? (i := 819) (by decide +kernel), List.mem_of_getElem? (i := 996) (by decide +kernel), List.mem_of_getElem? (i := 997) (by decide +kernel)⟩
theorem lw_p22 : lw_okq (⟨"GapTellingsModel", "endOf", "(I)I"⟩, 29) := ⟨⟨by decide +kernel, by decide +kernel⟩, List.mem_of_getElem? (i := 819) (by decide +kernel), List.mem_of_getElem? (i := 1000) (by decide +kernel), List.mem_of_getElem? (i := 1001) (by decide +kernel)⟩
theorem lw_p23 : lw_okq (⟨"GapTellingsModel", "isPicture", "(I)Z"⟩, 29) := ⟨⟨by decide +kernel, by decide +kernel⟩, List.mem_of_getElem? (i := 819) (by decide +kernel), List.mem_of_getElem? (i := 1012) (by decide +kernel), List.mem_of_getElem? (i := 1013) (by decide +kernel)⟩
theorem lw_p24 : lw_okq (⟨"GapTellingsModel", "isTelling", "(III)Z"⟩, 29) := ⟨⟨by decide +kernel, by decide +kernel⟩, List.mem_of_getElem? (i := 819) (by decide +kernel), List.mem_of_getElem? (i := 1020) (by decide +kernel), List.mem_of_getElem? (i := 1021) (by decide +kernel)⟩
theorem lw_p25 : lw_okq (⟨"GapTellingsModel", "gainOf", "(III)I"⟩, 29) := ⟨⟨by decide +kernel, by decide +kernel⟩, List.mem_of_getElem? (i := 819) (by decide +kernel), List.mem_of_getElem? (i := 1024) (by decide +kernel), List.mem_of_getElem? (i := 1025) (by decide +kernel)⟩
theorem lw_p26 : lw_okq (⟨"GapTellingsModel", "sum", "()I"⟩, 29) := ⟨⟨by decide +kernel, by decide +kernel⟩, List.mem_of_getElem? (i := 819) (by decide +kernel), List.mem_of_getElem? (i := 1045) (by decide +kernel), List.mem_of_getElem? (i := 1046) (by decide +kernel)⟩
theorem lw_p27 : lw_okq (⟨"GapTellingsModel", "plans", "()I"⟩, 29) := ⟨⟨by decide +kernel, by decide +kernel⟩, List.mem_of_getElem? (i := 819) (by decide +kernel), List.mem_of_getElem? (i := 1053) (by decide +kernel), List.mem_of_getElem? (i := 1054) (by decide +kernel)⟩
theorem lw_p28 : lw_okq (⟨"GapTellingsModel", "fills", "(I)I"⟩, 29) := ⟨⟨by decide +kernel, by decide +kernel⟩, List.mem_of_getElem? (i := 819) (by decide +kernel), List.mem_of_getElem? (i := 1057) (by decide +kernel), List.mem_of_getElem? (i := 1058) (by decide +kernel)⟩
theorem lw_p29 : lw_okq (⟨"GapTellingsModel", "begun", "(IIII)I"⟩, 29) := ⟨⟨by decide +kernel, by decide +kernel⟩, List.mem_of_getElem? (i := 819) (by decide +kernel), List.mem_of_getElem? (i := 1061) (by decide +kernel), List.mem_of_getElem? (i := 1062) (by decide +kernel)⟩
theorem lw_p30 : lw_okq (⟨"GapTellingsModel", "begins", "(II)I"⟩, 29) := ⟨⟨by decide +kernel, by decide +kernel⟩, List.mem_of_getElem? (i := 819) (by decide +kernel), List.mem_of_getElem? (i := 1066) (by decide +kernel), List.mem_of_getElem? (i := 1067) (by decide +kernel)⟩
theorem lw_p31 : lw_okq (⟨"GapTellingsModel", "isTold", "(I)Z"⟩, 29) := ⟨⟨by decide +kernel, by decide +kernel⟩, List.mem_of_getElem? (i := 819) (by decide +kernel), List.mem_of_getElem? (i := 1082) (by decide +kernel), List.mem_of_getElem? (i := 1083) (by decide +kernel)⟩
def lw_privs_2 : List (MethodName × Nat) := [(⟨"GapTellingsModel", "readsPicture", "(I)Z"⟩, 29), (⟨"GapTellingsModel", "readsNeed", "(I)Z"⟩, 29), (⟨"GapTellingsModel", "hears", "()V"⟩, 29), (⟨"GapTellingsModel", "whyNot", "(III)I"⟩, 29), (⟨"GapTellingsModel", "whyByFilm", "(III)I"⟩, 29), (⟨"GapTellingsModel", "wide", "(II)I"⟩, 29), (⟨"GapTellingsModel", "endOf", "(I)I"⟩, 29), (⟨"GapTellingsModel", "isPicture", "(I)Z"⟩, 29), (⟨"GapTellingsModel", "isTelling", "(III)Z"⟩, 29), (⟨"GapTellingsModel", "gainOf", "(III)I"⟩, 29), (⟨"GapTellingsModel", "sum", "()I"⟩, 29), (⟨"GapTellingsModel", "plans", "()I"⟩, 29), (⟨"GapTellingsModel", "fills", "(I)I"⟩, 29), (⟨"GapTellingsModel", "begun", "(IIII)I"⟩, 29), (⟨"GapTellingsModel", "begins", "(II)I"⟩, 29), (⟨"GapTellingsModel", "isTold", "(I)Z"⟩, 29)]
theorem lw_r2 : ∀ q ∈ lw_privs_2, lw_okq q := List.forall_mem_cons.mpr ⟨lw_p16, List.forall_mem_cons.mpr ⟨lw_p17, List.forall_mem_cons.mpr ⟨lw_p18, List.forall_mem_cons.mpr ⟨lw_p19, List.forall_mem_cons.mpr ⟨lw_p20, List.forall_mem_cons.mpr ⟨lw_p21, List.forall_mem_cons.mpr ⟨lw_p22, List.forall_mem_cons.mpr ⟨lw_p23, List.forall_mem_cons.mpr ⟨lw_p24, List.forall_mem_cons.mpr ⟨lw_p25, List.forall_mem_cons.mpr ⟨lw_p26, List.forall_mem_cons.mpr ⟨lw_p27, List.forall_mem_cons.mpr ⟨lw_p28, List.forall_mem_cons.mpr ⟨lw_p29, List.forall_mem_cons.mpr ⟨lw_p30, List.forall_mem_cons.mpr ⟨lw_p31, fun _ h => absurd h List.not_mem_nil⟩⟩⟩⟩⟩⟩⟩⟩⟩⟩⟩⟩⟩⟩⟩⟩
theorem lw_p32 : lw_okq (⟨"GapTellingsModel", "greeds", "()I"⟩, 29) := ⟨⟨by decide +kernel, by decide +kernel⟩, List.mem_of_getElem? (i := 819) (by decide +kernel), List.mem_of_getElem? (i := 1114) (by decide +kernel), List.mem_of_getElem? (i := 1115) (by decide +kernel)⟩
theorem lw_p33 : lw_okq (⟨"GapTellingsModel", "worthiest", "()I"⟩, 29) := ⟨⟨by decide +kernel, by decide +kernel⟩, List.mem_of_getElem? (i := 819) (by decide +kernel), List.mem_of_getElem? (i := 1118) (by decide +kernel), List.mem_of_getElem? (i := 1119) (by decide +kernel)⟩
def lw_privs_3 : List (MethodName × Nat) := [(⟨"GapTellingsModel", "greeds", "()I"⟩, 29), (⟨"GapTellingsModel", "worthiest", "()I"⟩, 29)]
theorem lw_r3 : ∀ q ∈ lw_privs_3, lw_okq q := List.forall_mem_cons.mpr ⟨lw_p32, List.forall_mem_cons.mpr ⟨lw_p33, fun _ h => absurd h List.not_mem_nil⟩⟩
def lw_privs : List (MethodName × Nat) := lw_privs_1 ++ (lw_privs_2 ++ (lw_privs_3))
def lw_tbl : List Cond := k2_sels lw_privs ++ tables_1
theorem lw_privs_ok : ∀ q ∈ lw_privs, lw_okq q := by
  show ∀ q ∈ lw_privs_1 ++ (lw_privs_2 ++ (lw_privs_3)), lw_okq q
  exact List.forall_mem_append.mpr ⟨lw_r1, List.forall_mem_append.mpr ⟨lw_r2, lw_r3⟩⟩
/-! ===== BEGIN words of one list among another's, by their places ===== -/
theorem goodIn_r {big : List Cond} (ws : List Cond) (ps : List Nat) (hp : ws = ps.filterMap (fun i => big[i]?)) (h : ws.all goodWord = true) : GoodIn big ws := by
  intro w hw
  have h1 := List.all_eq_true.mp h w hw
  rw [hp] at hw
  obtain ⟨i, -, hi⟩ := List.mem_filterMap.mp hw
  have hm : w ∈ big := by first | exact List.mem_of_getElem? hi | exact List.getElem?_mem hi
  exact ⟨hm, good_of_word h1⟩
theorem goodIn_app {big a b : List Cond} (ha : GoodIn big a) (hb : GoodIn big b) : GoodIn big (a ++ b) := fun w h => (List.mem_append.mp h).elim (ha w) (hb w)
theorem goodIn_ca {big a b : List Cond} {c : Cond} (ha : GoodIn big (c :: a)) (hb : GoodIn big b) : GoodIn big (c :: (a ++ b)) := fun w h => (List.mem_cons.mp h).elim (fun e => ha w (List.mem_cons.mpr (Or.inl e))) (fun h => (List.mem_append.mp h).elim (fun h => ha w (List.mem_cons.mpr (Or.inr h))) (hb w))
theorem goodIn_sub {big ws : List Cond} (hm : ∀ w ∈ ws, w ∈ big) (h : ws.all goodWord = true) : GoodIn big ws := fun w hw => ⟨hm w hw, good_of_word (List.all_eq_true.mp h w hw)⟩
/-! ===== END ===== -/

/-! ===== BEGIN printed: names, fields, word lists, decode rows ===== -/
def RX0 : String := "GapTellings$BestFinder"
def TX0 : u_T := fun k => match k with
  | 0 => ("GapTellings$BestFinder", "film", "LGapTellings$Film;", true)
  | _ => ("GapTellings$BestFinder", "table", "[I", true)
def tyX0 : Nat → FieldType := fun k => match k with
  | 0 => .object "GapTellings$Film"
  | _ => .array .int
abbrev wsX00 : List Cond := u_ws RX0 TX0 2
theorem nmX0 : ∀ a, a < 2 → ∀ b, b < 2 → a ≠ b → (TX0 a).2.1 ≠ (TX0 b).2.1 := by decide +kernel
theorem tyX0_ok : ∀ k, k < 2 → parseFieldDescriptor (TX0 k).2.2.1 = some (tyX0 k) := by decide +kernel
abbrev cX0_init : ByteArray := prog_2_method_1_code
def yX0_init : MethodName := ⟨RX0, "<init>", "(LGapTellings$Film;)V"⟩
abbrev cX0_solve : ByteArray := prog_2_method_2_code
def yX0_solve : MethodName := ⟨RX0, "solve", "(LGapTellings$Track;II)I"⟩
abbrev cX0_openAhead : ByteArray := prog_2_method_3_code
def yX0_openAhead : MethodName := ⟨RX0, "openAhead", "(II)I"⟩
abbrev cX0_tryPicture : ByteArray := prog_2_method_4_code
def yX0_tryPicture : MethodName := ⟨RX0, "tryPicture", "(LGapTellings$Track;IIII)V"⟩
abbrev cX0_raiseRow : ByteArray := prog_2_method_5_code
def yX0_raiseRow : MethodName := ⟨RX0, "raiseRow", "(IIIII)V"⟩
abbrev cX0_nextFree : ByteArray := prog_2_method_6_code
def yX0_nextFree : MethodName := ⟨RX0, "nextFree", "(IIII)I"⟩
abbrev cX0_neededSet : ByteArray := prog_2_method_7_code
def yX0_neededSet : MethodName := ⟨RX0, "neededSet", "(I)I"⟩
abbrev cX0_trace : ByteArray := prog_2_method_8_code
def yX0_trace : MethodName := ⟨RX0, "trace", "(LGapTellings$Track;ILGapTellings$Plan;)V"⟩
abbrev cX0_putFirst : ByteArray := prog_2_method_9_code
def yX0_putFirst : MethodName := ⟨RX0, "putFirst", "(LGapTellings$Track;ILGapTellings$Plan;II)I"⟩
def RX1 : String := "GapTellings$Film"
def TX1 : u_T := fun k => match k with
  | 0 => ("GapTellings$Film", "ticks", "I", false)
  | 1 => ("GapTellings$Film", "breath", "I", false)
  | 2 => ("GapTellings$Film", "rates", "[I", true)
  | 3 => ("GapTellings$Film", "soundCount", "I", false)
  | 4 => ("GapTellings$Film", "kinds", "[I", true)
  | 5 => ("GapTellings$Film", "begins", "[I", true)
  | 6 => ("GapTellings$Film", "ends", "[I", true)
  | 7 => ("GapTellings$Film", "pictureCount", "I", false)
  | _ => ("GapTellings$Film", "pictures", "[LGapTellings$Picture;", true)
def tyX1 : Nat → FieldType := fun k => match k with
  | 0 => .int
  | 1 => .int
  | 2 => .array .int
  | 3 => .int
  | 4 => .array .int
  | 5 => .array .int
  | 6 => .array .int
  | 7 => .int
  | _ => .array (.object "GapTellings$Picture")
abbrev wsX10 : List Cond := u_ws RX1 TX1 9
theorem nmX1 : ∀ a, a < 9 → ∀ b, b < 9 → a ≠ b → (TX1 a).2.1 ≠ (TX1 b).2.1 := by decide +kernel
theorem tyX1_ok : ∀ k, k < 9 → parseFieldDescriptor (TX1 k).2.2.1 = some (tyX1 k) := by decide +kernel
abbrev cX1_init : ByteArray := prog_3_method_1_code
def yX1_init : MethodName := ⟨RX1, "<init>", "()V"⟩
abbrev cX1_startAnew : ByteArray := prog_3_method_2_code
def yX1_startAnew : MethodName := ⟨RX1, "startAnew", "()V"⟩
abbrev cX1_addSound : ByteArray := prog_3_method_3_code
def yX1_addSound : MethodName := ⟨RX1, "addSound", "(III)V"⟩
abbrev cX1_dropSound : ByteArray := prog_3_method_4_code
def yX1_dropSound : MethodName := ⟨RX1, "dropSound", "(I)V"⟩
abbrev cX1_allPictures : ByteArray := prog_3_method_5_code
def yX1_allPictures : MethodName := ⟨RX1, "allPictures", "()I"⟩
def RX2 : String := "GapTellings$GreedyFinder"
def TX2 : u_T := fun k => match k with
  | 0 => ("GapTellings$GreedyFinder", "film", "LGapTellings$Film;", true)
  | 1 => ("GapTellings$GreedyFinder", "track", "LGapTellings$Track;", true)
  | 2 => ("GapTellings$GreedyFinder", "plan", "LGapTellings$Plan;", true)
  | 3 => ("GapTellings$GreedyFinder", "known", "Z", false)
  | 4 => ("GapTellings$GreedyFinder", "passed", "I", false)
  | 5 => ("GapTellings$GreedyFinder", "foundPicture", "I", false)
  | 6 => ("GapTellings$GreedyFinder", "foundVersion", "I", false)
  | 7 => ("GapTellings$GreedyFinder", "foundTick", "I", false)
  | 8 => ("GapTellings$GreedyFinder", "foundWorth", "I", false)
  | _ => ("GapTellings$GreedyFinder", "foundGain", "I", false)
def tyX2 : Nat → FieldType := fun k => match k with
  | 0 => .object "GapTellings$Film"
  | 1 => .object "GapTellings$Track"
  | 2 => .object "GapTellings$Plan"
  | 3 => .boolean
  | 4 => .int
  | 5 => .int
  | 6 => .int
  | 7 => .int
  | 8 => .int
  | _ => .int
abbrev wsX20 : List Cond := u_ws RX2 TX2 10
theorem nmX2 : ∀ a, a < 10 → ∀ b, b < 10 → a ≠ b → (TX2 a).2.1 ≠ (TX2 b).2.1 := by decide +kernel
theorem tyX2_ok : ∀ k, k < 10 → parseFieldDescriptor (TX2 k).2.2.1 = some (tyX2 k) := by decide +kernel
abbrev cX2_init : ByteArray := prog_4_method_1_code
def yX2_init : MethodName := ⟨RX2, "<init>", "(LGapTellings$Film;LGapTellings$Track;)V"⟩
abbrev cX2_fillPlan : ByteArray := prog_4_method_2_code
def yX2_fillPlan : MethodName := ⟨RX2, "fillPlan", "()V"⟩
abbrev cX2_versionBit : ByteArray := prog_4_method_3_code
def yX2_versionBit : MethodName := ⟨RX2, "versionBit", "(II)I"⟩
abbrev cX2_findWorthiest : ByteArray := prog_4_method_4_code
def yX2_findWorthiest : MethodName := ⟨RX2, "findWorthiest", "()V"⟩
abbrev cX2_lookAtTicks : ByteArray := prog_4_method_5_code
def yX2_lookAtTicks : MethodName := ⟨RX2, "lookAtTicks", "(II)V"⟩
abbrev cX2_offer : ByteArray := prog_4_method_6_code
def yX2_offer : MethodName := ⟨RX2, "offer", "(III)V"⟩
def RX3 : String := "GapTellings$Picture"
def TX3 : u_T := fun k => match k with
  | 0 => ("GapTellings$Picture", "tick", "I", false)
  | 1 => ("GapTellings$Picture", "early", "I", false)
  | 2 => ("GapTellings$Picture", "late", "I", false)
  | 3 => ("GapTellings$Picture", "needs", "I", false)
  | 4 => ("GapTellings$Picture", "versionCount", "I", false)
  | 5 => ("GapTellings$Picture", "lengths", "[I", true)
  | _ => ("GapTellings$Picture", "worths", "[I", true)
def tyX3 : Nat → FieldType := fun k => match k with
  | 0 => .int
  | 1 => .int
  | 2 => .int
  | 3 => .int
  | 4 => .int
  | 5 => .array .int
  | _ => .array .int
abbrev wsX30 : List Cond := u_ws RX3 TX3 7
theorem nmX3 : ∀ a, a < 7 → ∀ b, b < 7 → a ≠ b → (TX3 a).2.1 ≠ (TX3 b).2.1 := by decide +kernel
theorem tyX3_ok : ∀ k, k < 7 → parseFieldDescriptor (TX3 k).2.2.1 = some (tyX3 k) := by decide +kernel
abbrev cX3_init : ByteArray := prog_5_method_1_code
def yX3_init : MethodName := ⟨RX3, "<init>", "()V"⟩
abbrev cX3_start : ByteArray := prog_5_method_2_code
def yX3_start : MethodName := ⟨RX3, "start", "(III)V"⟩
abbrev cX3_isNear : ByteArray := prog_5_method_3_code
def yX3_isNear : MethodName := ⟨RX3, "isNear", "(I)Z"⟩
abbrev cX3_addVersion : ByteArray := prog_5_method_4_code
def yX3_addVersion : MethodName := ⟨RX3, "addVersion", "(II)V"⟩
def RX4 : String := "GapTellings$Plan"
def TX4 : u_T := fun k => match k with
  | 0 => ("GapTellings$Plan", "film", "LGapTellings$Film;", true)
  | 1 => ("GapTellings$Plan", "versions", "[I", true)
  | _ => ("GapTellings$Plan", "starts", "[I", true)
def tyX4 : Nat → FieldType := fun k => match k with
  | 0 => .object "GapTellings$Film"
  | 1 => .array .int
  | _ => .array .int
abbrev wsX40 : List Cond := u_ws RX4 TX4 3
theorem nmX4 : ∀ a, a < 3 → ∀ b, b < 3 → a ≠ b → (TX4 a).2.1 ≠ (TX4 b).2.1 := by decide +kernel
theorem tyX4_ok : ∀ k, k < 3 → parseFieldDescriptor (TX4 k).2.2.1 = some (tyX4 k) := by decide +kernel
abbrev cX4_init : ByteArray := prog_6_method_1_code
def yX4_init : MethodName := ⟨RX4, "<init>", "(LGapTellings$Film;)V"⟩
abbrev cX4_clear : ByteArray := prog_6_method_2_code
def yX4_clear : MethodName := ⟨RX4, "clear", "()V"⟩
abbrev cX4_copyFrom : ByteArray := prog_6_method_3_code
def yX4_copyFrom : MethodName := ⟨RX4, "copyFrom", "(LGapTellings$Plan;)V"⟩
abbrev cX4_has : ByteArray := prog_6_method_4_code
def yX4_has : MethodName := ⟨RX4, "has", "(I)Z"⟩
abbrev cX4_put : ByteArray := prog_6_method_5_code
def yX4_put : MethodName := ⟨RX4, "put", "(III)V"⟩
abbrev cX4_drop : ByteArray := prog_6_method_6_code
def yX4_drop : MethodName := ⟨RX4, "drop", "(I)V"⟩
abbrev cX4_size : ByteArray := prog_6_method_7_code
def yX4_size : MethodName := ⟨RX4, "size", "()I"⟩
abbrev cX4_endOf : ByteArray := prog_6_method_8_code
def yX4_endOf : MethodName := ⟨RX4, "endOf", "(I)I"⟩
abbrev cX4_whyNot : ByteArray := prog_6_method_9_code
def yX4_whyNot : MethodName := ⟨RX4, "whyNot", "(LGapTellings$Track;III)I"⟩
abbrev cX4_whyNotBesideOthers : ByteArray := prog_6_method_10_code
def yX4_whyNotBesideOthers : MethodName := ⟨RX4, "whyNotBesideOthers", "(III)I"⟩
abbrev cX4_dropFaulty : ByteArray := prog_6_method_11_code
def yX4_dropFaulty : MethodName := ⟨RX4, "dropFaulty", "(LGapTellings$Track;)V"⟩
abbrev cX4_lowestFaulty : ByteArray := prog_6_method_12_code
def yX4_lowestFaulty : MethodName := ⟨RX4, "lowestFaulty", "(LGapTellings$Track;)I"⟩
abbrev cX4_dropWithNeeders : ByteArray := prog_6_method_13_code
def yX4_dropWithNeeders : MethodName := ⟨RX4, "dropWithNeeders", "(I)I"⟩
abbrev cX4_valueOn : ByteArray := prog_6_method_14_code
def yX4_valueOn : MethodName := ⟨RX4, "valueOn", "(LGapTellings$Track;)I"⟩
abbrev cX4_tellsAt : ByteArray := prog_6_method_15_code
def yX4_tellsAt : MethodName := ⟨RX4, "tellsAt", "(I)Z"⟩
abbrev cX4_ticksTold : ByteArray := prog_6_method_16_code
def yX4_ticksTold : MethodName := ⟨RX4, "ticksTold", "(II)I"⟩
def RX5 : String := "GapTellings$TextReader"
def TX5 : u_T := fun k => match k with
  | 0 => ("GapTellings$TextReader", "numbers", "[I", true)
  | 1 => ("GapTellings$TextReader", "figures", "[I", true)
  | 2 => ("GapTellings$TextReader", "found", "I", false)
  | _ => ("GapTellings$TextReader", "at", "I", false)
def tyX5 : Nat → FieldType := fun k => match k with
  | 0 => .array .int
  | 1 => .array .int
  | 2 => .int
  | _ => .int
abbrev wsX50 : List Cond := u_ws RX5 TX5 4
theorem nmX5 : ∀ a, a < 4 → ∀ b, b < 4 → a ≠ b → (TX5 a).2.1 ≠ (TX5 b).2.1 := by decide +kernel
theorem tyX5_ok : ∀ k, k < 4 → parseFieldDescriptor (TX5 k).2.2.1 = some (tyX5 k) := by decide +kernel
abbrev cX5_init : ByteArray := prog_7_method_1_code
def yX5_init : MethodName := ⟨RX5, "<init>", "()V"⟩
abbrev cX5_read : ByteArray := prog_7_method_2_code
def yX5_read : MethodName := ⟨RX5, "read", "([CILGapTellings$Film;)I"⟩
abbrev cX5_readNumbers : ByteArray := prog_7_method_3_code
def yX5_readNumbers : MethodName := ⟨RX5, "readNumbers", "([CI)Z"⟩
abbrev cX5_readNumber : ByteArray := prog_7_method_4_code
def yX5_readNumber : MethodName := ⟨RX5, "readNumber", "([CII)V"⟩
abbrev cX5_tellItem : ByteArray := prog_7_method_5_code
def yX5_tellItem : MethodName := ⟨RX5, "tellItem", "(CLGapTellings$Film;)Z"⟩
abbrev cX5_tellFilm : ByteArray := prog_7_method_6_code
def yX5_tellFilm : MethodName := ⟨RX5, "tellFilm", "(LGapTellings$Film;)Z"⟩
abbrev cX5_tellSound : ByteArray := prog_7_method_7_code
def yX5_tellSound : MethodName := ⟨RX5, "tellSound", "(LGapTellings$Film;I)Z"⟩
abbrev cX5_tellPicture : ByteArray := prog_7_method_8_code
def yX5_tellPicture : MethodName := ⟨RX5, "tellPicture", "(LGapTellings$Film;)Z"⟩
abbrev cX5_isPicture : ByteArray := prog_7_method_9_code
def yX5_isPicture : MethodName := ⟨RX5, "isPicture", "(LGapTellings$Film;)Z"⟩
abbrev cX5_allShort : ByteArray := prog_7_method_10_code
def yX5_allShort : MethodName := ⟨RX5, "allShort", "()Z"⟩
abbrev cX5_tellNeed : ByteArray := prog_7_method_11_code
def yX5_tellNeed : MethodName := ⟨RX5, "tellNeed", "(LGapTellings$Film;)Z"⟩
abbrev cX5_tellBreath : ByteArray := prog_7_method_12_code
def yX5_tellBreath : MethodName := ⟨RX5, "tellBreath", "(LGapTellings$Film;)Z"⟩
def RX6 : String := "GapTellings$Track"
def TX6 : u_T := fun k => match k with
  | 0 => ("GapTellings$Track", "film", "LGapTellings$Film;", true)
  | 1 => ("GapTellings$Track", "marks", "[I", true)
  | 2 => ("GapTellings$Track", "speechBefore", "[I", true)
  | _ => ("GapTellings$Track", "costBefore", "[I", true)
def tyX6 : Nat → FieldType := fun k => match k with
  | 0 => .object "GapTellings$Film"
  | 1 => .array .int
  | 2 => .array .int
  | _ => .array .int
abbrev wsX60 : List Cond := u_ws RX6 TX6 4
theorem nmX6 : ∀ a, a < 4 → ∀ b, b < 4 → a ≠ b → (TX6 a).2.1 ≠ (TX6 b).2.1 := by decide +kernel
theorem tyX6_ok : ∀ k, k < 4 → parseFieldDescriptor (TX6 k).2.2.1 = some (tyX6 k) := by decide +kernel
abbrev cX6_init : ByteArray := prog_8_method_1_code
def yX6_init : MethodName := ⟨RX6, "<init>", "(LGapTellings$Film;)V"⟩
abbrev cX6_listen : ByteArray := prog_8_method_2_code
def yX6_listen : MethodName := ⟨RX6, "listen", "(II)V"⟩
abbrev cX6_hasSpeech : ByteArray := prog_8_method_3_code
def yX6_hasSpeech : MethodName := ⟨RX6, "hasSpeech", "(I)Z"⟩
abbrev cX6_soundCost : ByteArray := prog_8_method_4_code
def yX6_soundCost : MethodName := ⟨RX6, "soundCost", "(I)I"⟩
abbrev cX6_ownWhyNot : ByteArray := prog_8_method_5_code
def yX6_ownWhyNot : MethodName := ⟨RX6, "ownWhyNot", "(III)I"⟩
abbrev cX6_gainOf : ByteArray := prog_8_method_6_code
def yX6_gainOf : MethodName := ⟨RX6, "gainOf", "(III)I"⟩
abbrev cX6_ticksOpen : ByteArray := prog_8_method_7_code
def yX6_ticksOpen : MethodName := ⟨RX6, "ticksOpen", "(II)I"⟩
abbrev cX6_greatestGain : ByteArray := prog_8_method_8_code
def yX6_greatestGain : MethodName := ⟨RX6, "greatestGain", "(II)I"⟩
abbrev cX6_silenceBeginsAt : ByteArray := prog_8_method_9_code
def yX6_silenceBeginsAt : MethodName := ⟨RX6, "silenceBeginsAt", "(I)Z"⟩
abbrev cX6_silenceCount : ByteArray := prog_8_method_10_code
def yX6_silenceCount : MethodName := ⟨RX6, "silenceCount", "()I"⟩
abbrev cX6_silenceBegin : ByteArray := prog_8_method_11_code
def yX6_silenceBegin : MethodName := ⟨RX6, "silenceBegin", "(I)I"⟩
abbrev cX6_silenceEnd : ByteArray := prog_8_method_12_code
def yX6_silenceEnd : MethodName := ⟨RX6, "silenceEnd", "(I)I"⟩
def RX7 : String := "GapTellings"
def TX7 : u_T := fun k => match k with
  | 0 => ("GapTellings", "text", "[C", true)
  | 1 => ("GapTellings", "textLength", "I", false)
  | 2 => ("GapTellings", "reader", "LGapTellings$TextReader;", true)
  | 3 => ("GapTellings", "draft", "LGapTellings$Film;", true)
  | 4 => ("GapTellings", "film", "LGapTellings$Film;", true)
  | 5 => ("GapTellings", "track", "LGapTellings$Track;", true)
  | 6 => ("GapTellings", "supposed", "LGapTellings$Track;", true)
  | 7 => ("GapTellings", "placed", "LGapTellings$Plan;", true)
  | 8 => ("GapTellings", "bestFinder", "LGapTellings$BestFinder;", true)
  | 9 => ("GapTellings", "bestPlan", "LGapTellings$Plan;", true)
  | 10 => ("GapTellings", "bestValue", "I", false)
  | 11 => ("GapTellings", "bestKnown", "Z", false)
  | _ => ("GapTellings", "greedyFinder", "LGapTellings$GreedyFinder;", true)
def tyX7 : Nat → FieldType := fun k => match k with
  | 0 => .array .char
  | 1 => .int
  | 2 => .object "GapTellings$TextReader"
  | 3 => .object "GapTellings$Film"
  | 4 => .object "GapTellings$Film"
  | 5 => .object "GapTellings$Track"
  | 6 => .object "GapTellings$Track"
  | 7 => .object "GapTellings$Plan"
  | 8 => .object "GapTellings$BestFinder"
  | 9 => .object "GapTellings$Plan"
  | 10 => .int
  | 11 => .boolean
  | _ => .object "GapTellings$GreedyFinder"
abbrev wsX70 : List Cond := u_ws RX7 TX7 13
theorem nmX7 : ∀ a, a < 13 → ∀ b, b < 13 → a ≠ b → (TX7 a).2.1 ≠ (TX7 b).2.1 := by decide +kernel
theorem tyX7_ok : ∀ k, k < 13 → parseFieldDescriptor (TX7 k).2.2.1 = some (tyX7 k) := by decide +kernel
abbrev cX7_init : ByteArray := prog_1_method_1_code
def yX7_init : MethodName := ⟨RX7, "<init>", "()V"⟩
abbrev cX7_write : ByteArray := prog_1_method_2_code
def yX7_write : MethodName := ⟨RX7, "write", "(I)I"⟩
abbrev cX7_wipe : ByteArray := prog_1_method_3_code
def yX7_wipe : MethodName := ⟨RX7, "wipe", "()I"⟩
abbrev cX7_fault : ByteArray := prog_1_method_4_code
def yX7_fault : MethodName := ⟨RX7, "fault", "()I"⟩
abbrev cX7_lay : ByteArray := prog_1_method_5_code
def yX7_lay : MethodName := ⟨RX7, "lay", "()I"⟩
abbrev cX7_rate : ByteArray := prog_1_method_6_code
def yX7_rate : MethodName := ⟨RX7, "rate", "(II)I"⟩
abbrev cX7_breath : ByteArray := prog_1_method_7_code
def yX7_breath : MethodName := ⟨RX7, "breath", "(I)I"⟩
abbrev cX7_sound : ByteArray := prog_1_method_8_code
def yX7_sound : MethodName := ⟨RX7, "sound", "(III)I"⟩
abbrev cX7_hush : ByteArray := prog_1_method_9_code
def yX7_hush : MethodName := ⟨RX7, "hush", "(I)I"⟩
abbrev cX7_version : ByteArray := prog_1_method_10_code
def yX7_version : MethodName := ⟨RX7, "version", "(III)I"⟩
abbrev cX7_place : ByteArray := prog_1_method_11_code
def yX7_place : MethodName := ⟨RX7, "place", "(III)I"⟩
abbrev cX7_off : ByteArray := prog_1_method_12_code
def yX7_off : MethodName := ⟨RX7, "off", "(I)I"⟩
abbrev cX7_why : ByteArray := prog_1_method_13_code
def yX7_why : MethodName := ⟨RX7, "why", "(III)I"⟩
abbrev cX7_gain : ByteArray := prog_1_method_14_code
def yX7_gain : MethodName := ⟨RX7, "gain", "(III)I"⟩
abbrev cX7_value : ByteArray := prog_1_method_15_code
def yX7_value : MethodName := ⟨RX7, "value", "()I"⟩
abbrev cX7_adopt : ByteArray := prog_1_method_16_code
def yX7_adopt : MethodName := ⟨RX7, "adopt", "()I"⟩
abbrev cX7_picture : ByteArray := prog_1_method_17_code
def yX7_picture : MethodName := ⟨RX7, "picture", "(II)I"⟩
abbrev cX7_told : ByteArray := prog_1_method_18_code
def yX7_told : MethodName := ⟨RX7, "told", "(III)I"⟩
abbrev cX7_tick : ByteArray := prog_1_method_19_code
def yX7_tick : MethodName := ⟨RX7, "tick", "(I)I"⟩
abbrev cX7_silence : ByteArray := prog_1_method_20_code
def yX7_silence : MethodName := ⟨RX7, "silence", "(II)I"⟩
abbrev cX7_best : ByteArray := prog_1_method_21_code
def yX7_best : MethodName := ⟨RX7, "best", "()I"⟩
abbrev cX7_bestOf : ByteArray := prog_1_method_22_code
def yX7_bestOf : MethodName := ⟨RX7, "bestOf", "(II)I"⟩
abbrev cX7_bestBy : ByteArray := prog_1_method_23_code
def yX7_bestBy : MethodName := ⟨RX7, "bestBy", "(I)I"⟩
abbrev cX7_bestIf : ByteArray := prog_1_method_24_code
def yX7_bestIf : MethodName := ⟨RX7, "bestIf", "(II)I"⟩
abbrev cX7_bestBreath : ByteArray := prog_1_method_25_code
def yX7_bestBreath : MethodName := ⟨RX7, "bestBreath", "(I)I"⟩
abbrev cX7_greedy : ByteArray := prog_1_method_26_code
def yX7_greedy : MethodName := ⟨RX7, "greedy", "()I"⟩
abbrev cX7_greedyOf : ByteArray := prog_1_method_27_code
def yX7_greedyOf : MethodName := ⟨RX7, "greedyOf", "(II)I"⟩
abbrev cX7_count : ByteArray := prog_1_method_28_code
def yX7_count : MethodName := ⟨RX7, "count", "(I)I"⟩
abbrev cX7_hasPicture : ByteArray := prog_1_method_29_code
def yX7_hasPicture : MethodName := ⟨RX7, "hasPicture", "(I)Z"⟩
abbrev cX7_hasVersion : ByteArray := prog_1_method_30_code
def yX7_hasVersion : MethodName := ⟨RX7, "hasVersion", "(II)Z"⟩
abbrev cX7_hasTick : ByteArray := prog_1_method_31_code
def yX7_hasTick : MethodName := ⟨RX7, "hasTick", "(I)Z"⟩
abbrev cX7_hasSound : ByteArray := prog_1_method_32_code
def yX7_hasSound : MethodName := ⟨RX7, "hasSound", "(I)Z"⟩
abbrev cX7_layText : ByteArray := prog_1_method_33_code
def yX7_layText : MethodName := ⟨RX7, "layText", "()V"⟩
abbrev cX7_filmChanged : ByteArray := prog_1_method_34_code
def yX7_filmChanged : MethodName := ⟨RX7, "filmChanged", "()V"⟩
abbrev cX7_findBest : ByteArray := prog_1_method_35_code
def yX7_findBest : MethodName := ⟨RX7, "findBest", "()V"⟩
abbrev cX7_ticksOpenNow : ByteArray := prog_1_method_36_code
def yX7_ticksOpenNow : MethodName := ⟨RX7, "ticksOpenNow", "(II)I"⟩
def RX8 : String := "GapTellingsModel"
def TX8 : u_T := fun k => match k with
  | 0 => ("GapTellingsModel", "length", "I", false)
  | 1 => ("GapTellingsModel", "text", "[I", true)
  | 2 => ("GapTellingsModel", "ticks", "I", false)
  | 3 => ("GapTellingsModel", "breath", "I", false)
  | 4 => ("GapTellingsModel", "sounds", "I", false)
  | 5 => ("GapTellingsModel", "sound", "[I", true)
  | 6 => ("GapTellingsModel", "pictures", "I", false)
  | 7 => ("GapTellingsModel", "picture", "[I", true)
  | 8 => ("GapTellingsModel", "rates", "[I", true)
  | 9 => ("GapTellingsModel", "readTicks", "I", false)
  | 10 => ("GapTellingsModel", "readBreath", "I", false)
  | 11 => ("GapTellingsModel", "readSounds", "I", false)
  | 12 => ("GapTellingsModel", "readSound", "[I", true)
  | 13 => ("GapTellingsModel", "readPictures", "I", false)
  | 14 => ("GapTellingsModel", "readPicture", "[I", true)
  | 15 => ("GapTellingsModel", "versions", "[I", true)
  | 16 => ("GapTellingsModel", "places", "[I", true)
  | 17 => ("GapTellingsModel", "bestVersions", "[I", true)
  | 18 => ("GapTellingsModel", "bestPlaces", "[I", true)
  | 19 => ("GapTellingsModel", "handVersions", "[I", true)
  | 20 => ("GapTellingsModel", "handPlaces", "[I", true)
  | 21 => ("GapTellingsModel", "passed", "[I", true)
  | 22 => ("GapTellingsModel", "heard", "[I", true)
  | 23 => ("GapTellingsModel", "most", "[I", true)
  | 24 => ("GapTellingsModel", "firstSounds", "[I", true)
  | 25 => ("GapTellingsModel", "firstPictures", "[I", true)
  | 26 => ("GapTellingsModel", "lastPictures", "[I", true)
  | 27 => ("GapTellingsModel", "value", "I", false)
  | _ => ("GapTellingsModel", "ends", "I", false)
def tyX8 : Nat → FieldType := fun k => match k with
  | 0 => .int
  | 1 => .array .int
  | 2 => .int
  | 3 => .int
  | 4 => .int
  | 5 => .array .int
  | 6 => .int
  | 7 => .array .int
  | 8 => .array .int
  | 9 => .int
  | 10 => .int
  | 11 => .int
  | 12 => .array .int
  | 13 => .int
  | 14 => .array .int
  | 15 => .array .int
  | 16 => .array .int
  | 17 => .array .int
  | 18 => .array .int
  | 19 => .array .int
  | 20 => .array .int
  | 21 => .array .int
  | 22 => .array .int
  | 23 => .array .int
  | 24 => .array .int
  | 25 => .array .int
  | 26 => .array .int
  | 27 => .int
  | _ => .int
abbrev wsX80 : List Cond := u_ws RX8 TX8 29
theorem nmX8 : ∀ a, a < 29 → ∀ b, b < 29 → a ≠ b → (TX8 a).2.1 ≠ (TX8 b).2.1 := by decide +kernel
theorem tyX8_ok : ∀ k, k < 29 → parseFieldDescriptor (TX8 k).2.2.1 = some (tyX8 k) := by decide +kernel
abbrev cX8_init : ByteArray := prog_10_method_1_code
def yX8_init : MethodName := ⟨RX8, "<init>", "()V"⟩
abbrev cX8_clears : ByteArray := prog_10_method_2_code
def yX8_clears : MethodName := ⟨RX8, "clears", "()V"⟩
abbrev cX8_isIn : ByteArray := prog_10_method_3_code
def yX8_isIn : MethodName := ⟨RX8, "isIn", "(III)Z"⟩
abbrev cX8_letterAt : ByteArray := prog_10_method_4_code
def yX8_letterAt : MethodName := ⟨RX8, "letterAt", "(I)I"⟩
abbrev cX8_isFigure : ByteArray := prog_10_method_5_code
def yX8_isFigure : MethodName := ⟨RX8, "isFigure", "(I)Z"⟩
abbrev cX8_number : ByteArray := prog_10_method_6_code
def yX8_number : MethodName := ⟨RX8, "number", "(IIII)Z"⟩
abbrev cX8_more : ByteArray := prog_10_method_7_code
def yX8_more : MethodName := ⟨RX8, "more", "(III)Z"⟩
abbrev cX8_readsSound : ByteArray := prog_10_method_8_code
def yX8_readsSound : MethodName := ⟨RX8, "readsSound", "(II)Z"⟩
abbrev cX8_readsPicture : ByteArray := prog_10_method_9_code
def yX8_readsPicture : MethodName := ⟨RX8, "readsPicture", "(I)Z"⟩
abbrev cX8_readsNeed : ByteArray := prog_10_method_10_code
def yX8_readsNeed : MethodName := ⟨RX8, "readsNeed", "(I)Z"⟩
abbrev cX8_readsItem : ByteArray := prog_10_method_11_code
def yX8_readsItem : MethodName := ⟨RX8, "readsItem", "(II)Z"⟩
abbrev cX8_reads : ByteArray := prog_10_method_12_code
def yX8_reads : MethodName := ⟨RX8, "reads", "()I"⟩
abbrev cX8_write : ByteArray := prog_10_method_13_code
def yX8_write : MethodName := ⟨RX8, "write", "(I)I"⟩
abbrev cX8_wipe : ByteArray := prog_10_method_14_code
def yX8_wipe : MethodName := ⟨RX8, "wipe", "()I"⟩
abbrev cX8_fault : ByteArray := prog_10_method_15_code
def yX8_fault : MethodName := ⟨RX8, "fault", "()I"⟩
abbrev cX8_lay : ByteArray := prog_10_method_16_code
def yX8_lay : MethodName := ⟨RX8, "lay", "()I"⟩
abbrev cX8_rate : ByteArray := prog_10_method_17_code
def yX8_rate : MethodName := ⟨RX8, "rate", "(II)I"⟩
abbrev cX8_breath : ByteArray := prog_10_method_18_code
def yX8_breath : MethodName := ⟨RX8, "breath", "(I)I"⟩
abbrev cX8_sound : ByteArray := prog_10_method_19_code
def yX8_sound : MethodName := ⟨RX8, "sound", "(III)I"⟩
abbrev cX8_hush : ByteArray := prog_10_method_20_code
def yX8_hush : MethodName := ⟨RX8, "hush", "(I)I"⟩
abbrev cX8_isPicture : ByteArray := prog_10_method_21_code
def yX8_isPicture : MethodName := ⟨RX8, "isPicture", "(I)Z"⟩
abbrev cX8_version : ByteArray := prog_10_method_22_code
def yX8_version : MethodName := ⟨RX8, "version", "(III)I"⟩
abbrev cX8_hears : ByteArray := prog_10_method_23_code
def yX8_hears : MethodName := ⟨RX8, "hears", "()V"⟩
abbrev cX8_wide : ByteArray := prog_10_method_24_code
def yX8_wide : MethodName := ⟨RX8, "wide", "(II)I"⟩
abbrev cX8_whyByFilm : ByteArray := prog_10_method_25_code
def yX8_whyByFilm : MethodName := ⟨RX8, "whyByFilm", "(III)I"⟩
abbrev cX8_endOf : ByteArray := prog_10_method_26_code
def yX8_endOf : MethodName := ⟨RX8, "endOf", "(I)I"⟩
abbrev cX8_whyNot : ByteArray := prog_10_method_27_code
def yX8_whyNot : MethodName := ⟨RX8, "whyNot", "(III)I"⟩
abbrev cX8_gainOf : ByteArray := prog_10_method_28_code
def yX8_gainOf : MethodName := ⟨RX8, "gainOf", "(III)I"⟩
abbrev cX8_isTelling : ByteArray := prog_10_method_29_code
def yX8_isTelling : MethodName := ⟨RX8, "isTelling", "(III)Z"⟩
abbrev cX8_place : ByteArray := prog_10_method_30_code
def yX8_place : MethodName := ⟨RX8, "place", "(III)I"⟩
abbrev cX8_off : ByteArray := prog_10_method_31_code
def yX8_off : MethodName := ⟨RX8, "off", "(I)I"⟩
abbrev cX8_why : ByteArray := prog_10_method_32_code
def yX8_why : MethodName := ⟨RX8, "why", "(III)I"⟩
abbrev cX8_gain : ByteArray := prog_10_method_33_code
def yX8_gain : MethodName := ⟨RX8, "gain", "(III)I"⟩
abbrev cX8_sum : ByteArray := prog_10_method_34_code
def yX8_sum : MethodName := ⟨RX8, "sum", "()I"⟩
abbrev cX8_value : ByteArray := prog_10_method_35_code
def yX8_value : MethodName := ⟨RX8, "value", "()I"⟩
abbrev cX8_adopt : ByteArray := prog_10_method_36_code
def yX8_adopt : MethodName := ⟨RX8, "adopt", "()I"⟩
abbrev cX8_picture : ByteArray := prog_10_method_37_code
def yX8_picture : MethodName := ⟨RX8, "picture", "(II)I"⟩
abbrev cX8_told : ByteArray := prog_10_method_38_code
def yX8_told : MethodName := ⟨RX8, "told", "(III)I"⟩
abbrev cX8_isTold : ByteArray := prog_10_method_39_code
def yX8_isTold : MethodName := ⟨RX8, "isTold", "(I)Z"⟩
abbrev cX8_tick : ByteArray := prog_10_method_40_code
def yX8_tick : MethodName := ⟨RX8, "tick", "(I)I"⟩
abbrev cX8_silence : ByteArray := prog_10_method_41_code
def yX8_silence : MethodName := ⟨RX8, "silence", "(II)I"⟩
abbrev cX8_begun : ByteArray := prog_10_method_42_code
def yX8_begun : MethodName := ⟨RX8, "begun", "(IIII)I"⟩
abbrev cX8_fills : ByteArray := prog_10_method_43_code
def yX8_fills : MethodName := ⟨RX8, "fills", "(I)I"⟩
abbrev cX8_plans : ByteArray := prog_10_method_44_code
def yX8_plans : MethodName := ⟨RX8, "plans", "()I"⟩
abbrev cX8_begins : ByteArray := prog_10_method_45_code
def yX8_begins : MethodName := ⟨RX8, "begins", "(II)I"⟩
abbrev cX8_best : ByteArray := prog_10_method_46_code
def yX8_best : MethodName := ⟨RX8, "best", "()I"⟩
abbrev cX8_bestOf : ByteArray := prog_10_method_47_code
def yX8_bestOf : MethodName := ⟨RX8, "bestOf", "(II)I"⟩
abbrev cX8_bestBy : ByteArray := prog_10_method_48_code
def yX8_bestBy : MethodName := ⟨RX8, "bestBy", "(I)I"⟩
abbrev cX8_bestIf : ByteArray := prog_10_method_49_code
def yX8_bestIf : MethodName := ⟨RX8, "bestIf", "(II)I"⟩
abbrev cX8_bestBreath : ByteArray := prog_10_method_50_code
def yX8_bestBreath : MethodName := ⟨RX8, "bestBreath", "(I)I"⟩
abbrev cX8_worthiest : ByteArray := prog_10_method_51_code
def yX8_worthiest : MethodName := ⟨RX8, "worthiest", "()I"⟩
abbrev cX8_greeds : ByteArray := prog_10_method_52_code
def yX8_greeds : MethodName := ⟨RX8, "greeds", "()I"⟩
abbrev cX8_greedy : ByteArray := prog_10_method_53_code
def yX8_greedy : MethodName := ⟨RX8, "greedy", "()I"⟩
abbrev cX8_greedyOf : ByteArray := prog_10_method_54_code
def yX8_greedyOf : MethodName := ⟨RX8, "greedyOf", "(II)I"⟩
abbrev cX8_count : ByteArray := prog_10_method_55_code
def yX8_count : MethodName := ⟨RX8, "count", "(I)I"⟩
def RJx145de : String := "java/io/Serializable"
def TJx145de : u_T := fun k => match k with
  | _ => ("", "", "", false)
def tyJx145de : Nat → FieldType := fun k => match k with
  | _ => .int
abbrev wsJx145de0 : List Cond := u_ws RJx145de TJx145de 0
theorem nmJx145de : ∀ a, a < 0 → ∀ b, b < 0 → a ≠ b → (TJx145de a).2.1 ≠ (TJx145de b).2.1 := by decide +kernel
theorem tyJx145de_ok : ∀ k, k < 0 → parseFieldDescriptor (TJx145de k).2.2.1 = some (tyJx145de k) := by decide +kernel
def RJx9f9b0 : String := "java/lang/CharSequence"
def TJx9f9b0 : u_T := fun k => match k with
  | _ => ("", "", "", false)
def tyJx9f9b0 : Nat → FieldType := fun k => match k with
  | _ => .int
abbrev wsJx9f9b00 : List Cond := u_ws RJx9f9b0 TJx9f9b0 0
theorem nmJx9f9b0 : ∀ a, a < 0 → ∀ b, b < 0 → a ≠ b → (TJx9f9b0 a).2.1 ≠ (TJx9f9b0 b).2.1 := by decide +kernel
theorem tyJx9f9b0_ok : ∀ k, k < 0 → parseFieldDescriptor (TJx9f9b0 k).2.2.1 = some (tyJx9f9b0 k) := by decide +kernel
def RJ11 : String := "java/lang/Character"
def TJ11 : u_T := fun k => match k with
  | _ => ("", "", "", false)
def tyJ11 : Nat → FieldType := fun k => match k with
  | _ => .int
abbrev wsJ110 : List Cond := u_ws RJ11 TJ11 0
theorem nmJ11 : ∀ a, a < 0 → ∀ b, b < 0 → a ≠ b → (TJ11 a).2.1 ≠ (TJ11 b).2.1 := by decide +kernel
theorem tyJ11_ok : ∀ k, k < 0 → parseFieldDescriptor (TJ11 k).2.2.1 = some (tyJ11 k) := by decide +kernel
abbrev cJ11_isValidCodePoint_9a6ad : ByteArray := prog_11_method_11_code
def yJ11_isValidCodePoint_9a6ad : MethodName := ⟨RJ11, "isValidCodePoint", "(I)Z"⟩
abbrev cJ11_highSurrogate_5068e : ByteArray := prog_11_method_28_code
def yJ11_highSurrogate_5068e : MethodName := ⟨RJ11, "highSurrogate", "(I)C"⟩
abbrev cJ11_lowSurrogate_5068e : ByteArray := prog_11_method_29_code
def yJ11_lowSurrogate_5068e : MethodName := ⟨RJ11, "lowSurrogate", "(I)C"⟩
def RJxb160c : String := "java/lang/Comparable"
def TJxb160c : u_T := fun k => match k with
  | _ => ("", "", "", false)
def tyJxb160c : Nat → FieldType := fun k => match k with
  | _ => .int
abbrev wsJxb160c0 : List Cond := u_ws RJxb160c TJxb160c 0
theorem nmJxb160c : ∀ a, a < 0 → ∀ b, b < 0 → a ≠ b → (TJxb160c a).2.1 ≠ (TJxb160c b).2.1 := by decide +kernel
theorem tyJxb160c_ok : ∀ k, k < 0 → parseFieldDescriptor (TJxb160c k).2.2.1 = some (tyJxb160c k) := by decide +kernel
def RJ6 : String := "java/lang/Integer"
def TJ6 : u_T := fun k => match k with
  | _ => ("", "", "", false)
def tyJ6 : Nat → FieldType := fun k => match k with
  | _ => .int
abbrev wsJ60 : List Cond := u_ws RJ6 TJ6 0
theorem nmJ6 : ∀ a, a < 0 → ∀ b, b < 0 → a ≠ b → (TJ6 a).2.1 ≠ (TJ6 b).2.1 := by decide +kernel
theorem tyJ6_ok : ∀ k, k < 0 → parseFieldDescriptor (TJ6 k).2.2.1 = some (tyJ6 k) := by decide +kernel
abbrev cJ6_bitCount_0f7a4 : ByteArray := prog_12_method_49_code
def yJ6_bitCount_0f7a4 : MethodName := ⟨RJ6, "bitCount", "(I)I"⟩
def RJ9 : String := "java/lang/Math"
def TJ9 : u_T := fun k => match k with
  | _ => ("", "", "", false)
def tyJ9 : Nat → FieldType := fun k => match k with
  | _ => .int
abbrev wsJ90 : List Cond := u_ws RJ9 TJ9 0
theorem nmJ9 : ∀ a, a < 0 → ∀ b, b < 0 → a ≠ b → (TJ9 a).2.1 ≠ (TJ9 b).2.1 := by decide +kernel
theorem tyJ9_ok : ∀ k, k < 0 → parseFieldDescriptor (TJ9 k).2.2.1 = some (tyJ9 k) := by decide +kernel
abbrev cJ9_max_7cf53 : ByteArray := prog_13_method_65_code
def yJ9_max_7cf53 : MethodName := ⟨RJ9, "max", "(II)I"⟩
abbrev cJ9_min_7cf53 : ByteArray := prog_13_method_69_code
def yJ9_min_7cf53 : MethodName := ⟨RJ9, "min", "(II)I"⟩
def RJ0 : String := "java/lang/String"
def TJ0 : u_T := fun k => match k with
  | _ => ("", "", "", false)
def tyJ0 : Nat → FieldType := fun k => match k with
  | _ => .int
abbrev wsJ00 : List Cond := u_ws RJ0 TJ0 0
theorem nmJ0 : ∀ a, a < 0 → ∀ b, b < 0 → a ≠ b → (TJ0 a).2.1 ≠ (TJ0 b).2.1 := by decide +kernel
theorem tyJ0_ok : ∀ k, k < 0 → parseFieldDescriptor (TJ0 k).2.2.1 = some (tyJ0 k) := by decide +kernel
abbrev cJ0_length_8abf5 : ByteArray := prog_14_method_54_code
def yJ0_length_8abf5 : MethodName := ⟨RJ0, "length", "()I"⟩
abbrev cJ0_charAt_5068e : ByteArray := prog_14_method_56_code
def yJ0_charAt_5068e : MethodName := ⟨RJ0, "charAt", "(I)C"⟩
abbrev cJ0_indexOf_0f7a4 : ByteArray := prog_14_method_79_code
def yJ0_indexOf_0f7a4 : MethodName := ⟨RJ0, "indexOf", "(I)I"⟩
abbrev cJ0_indexOf_7cf53 : ByteArray := prog_14_method_80_code
def yJ0_indexOf_7cf53 : MethodName := ⟨RJ0, "indexOf", "(II)I"⟩
abbrev cJ0_coder_7d493 : ByteArray := prog_14_method_152_code
def yJ0_coder_7d493 : MethodName := ⟨RJ0, "coder", "()B"⟩
abbrev cJ0_isLatin1_aae02 : ByteArray := prog_14_method_154_code
def yJ0_isLatin1_aae02 : MethodName := ⟨RJ0, "isLatin1", "()Z"⟩
abbrev cJ0_checkIndex_df160 : ByteArray := prog_14_method_155_code
def yJ0_checkIndex_df160 : MethodName := ⟨RJ0, "checkIndex", "(II)V"⟩
abbrev cJ0_checkBoundsBeginEnd_23922 : ByteArray := prog_14_method_158_code
def yJ0_checkBoundsBeginEnd_23922 : MethodName := ⟨RJ0, "checkBoundsBeginEnd", "(III)V"⟩
def RJ1 : String := "java/lang/StringLatin1"
def TJ1 : u_T := fun k => match k with
  | _ => ("", "", "", false)
def tyJ1 : Nat → FieldType := fun k => match k with
  | _ => .int
abbrev wsJ10 : List Cond := u_ws RJ1 TJ1 0
theorem nmJ1 : ∀ a, a < 0 → ∀ b, b < 0 → a ≠ b → (TJ1 a).2.1 ≠ (TJ1 b).2.1 := by decide +kernel
theorem tyJ1_ok : ∀ k, k < 0 → parseFieldDescriptor (TJ1 k).2.2.1 = some (tyJ1 k) := by decide +kernel
abbrev cJ1_charAt_3b067 : ByteArray := prog_15_method_2_code
def yJ1_charAt_3b067 : MethodName := ⟨RJ1, "charAt", "([BI)C"⟩
abbrev cJ1_canEncode_9a6ad : ByteArray := prog_15_method_4_code
def yJ1_canEncode_9a6ad : MethodName := ⟨RJ1, "canEncode", "(I)Z"⟩
abbrev cJ1_indexOf_4cfef : ByteArray := prog_15_method_22_code
def yJ1_indexOf_4cfef : MethodName := ⟨RJ1, "indexOf", "([BIII)I"⟩
abbrev cJ1_indexOfChar_4cfef : ByteArray := prog_15_method_23_code
def yJ1_indexOfChar_4cfef : MethodName := ⟨RJ1, "indexOfChar", "([BIII)I"⟩
def RJ2 : String := "java/lang/StringUTF16"
def TJ2 : u_T := fun k => match k with
  | _ => ("", "", "", false)
def tyJ2 : Nat → FieldType := fun k => match k with
  | _ => .int
abbrev wsJ20 : List Cond := u_ws RJ2 TJ2 0
theorem nmJ2 : ∀ a, a < 0 → ∀ b, b < 0 → a ≠ b → (TJ2 a).2.1 ≠ (TJ2 b).2.1 := by decide +kernel
theorem tyJ2_ok : ∀ k, k < 0 → parseFieldDescriptor (TJ2 k).2.2.1 = some (tyJ2 k) := by decide +kernel
abbrev cJ2_getChar_3b067 : ByteArray := prog_16_method_5_code
def yJ2_getChar_3b067 : MethodName := ⟨RJ2, "getChar", "([BI)C"⟩
abbrev cJ2_length_9d52b : ByteArray := prog_16_method_6_code
def yJ2_length_9d52b : MethodName := ⟨RJ2, "length", "([B)I"⟩
abbrev cJ2_indexOf_4cfef : ByteArray := prog_16_method_40_code
def yJ2_indexOf_4cfef : MethodName := ⟨RJ2, "indexOf", "([BIII)I"⟩
abbrev cJ2_indexOfChar_4cfef : ByteArray := prog_16_method_47_code
def yJ2_indexOfChar_4cfef : MethodName := ⟨RJ2, "indexOfChar", "([BIII)I"⟩
abbrev cJ2_indexOfCharUnsafe_4cfef : ByteArray := prog_16_method_48_code
def yJ2_indexOfCharUnsafe_4cfef : MethodName := ⟨RJ2, "indexOfCharUnsafe", "([BIII)I"⟩
abbrev cJ2_indexOfSupplementary_4cfef : ByteArray := prog_16_method_49_code
def yJ2_indexOfSupplementary_4cfef : MethodName := ⟨RJ2, "indexOfSupplementary", "([BIII)I"⟩
abbrev cJ2_charAt_3b067 : ByteArray := prog_16_method_83_code
def yJ2_charAt_3b067 : MethodName := ⟨RJ2, "charAt", "([BI)C"⟩
abbrev cJ2_checkIndex_2214a : ByteArray := prog_16_method_91_code
def yJ2_checkIndex_2214a : MethodName := ⟨RJ2, "checkIndex", "(I[B)V"⟩
abbrev cJ2_checkBoundsBeginEnd_d044e : ByteArray := prog_16_method_93_code
def yJ2_checkBoundsBeginEnd_d044e : MethodName := ⟨RJ2, "checkBoundsBeginEnd", "(II[B)V"⟩
def RJ10 : String := "java/lang/System"
def TJ10 : u_T := fun k => match k with
  | _ => ("", "", "", false)
def tyJ10 : Nat → FieldType := fun k => match k with
  | _ => .int
abbrev wsJ100 : List Cond := u_ws RJ10 TJ10 0
theorem nmJ10 : ∀ a, a < 0 → ∀ b, b < 0 → a ≠ b → (TJ10 a).2.1 ≠ (TJ10 b).2.1 := by decide +kernel
theorem tyJ10_ok : ∀ k, k < 0 → parseFieldDescriptor (TJ10 k).2.2.1 = some (tyJ10 k) := by decide +kernel
def RJxfd54e : String := "java/lang/constant/Constable"
def TJxfd54e : u_T := fun k => match k with
  | _ => ("", "", "", false)
def tyJxfd54e : Nat → FieldType := fun k => match k with
  | _ => .int
abbrev wsJxfd54e0 : List Cond := u_ws RJxfd54e TJxfd54e 0
theorem nmJxfd54e : ∀ a, a < 0 → ∀ b, b < 0 → a ≠ b → (TJxfd54e a).2.1 ≠ (TJxfd54e b).2.1 := by decide +kernel
theorem tyJxfd54e_ok : ∀ k, k < 0 → parseFieldDescriptor (TJxfd54e k).2.2.1 = some (tyJxfd54e k) := by decide +kernel
def RJx3cf43 : String := "java/lang/constant/ConstantDesc"
def TJx3cf43 : u_T := fun k => match k with
  | _ => ("", "", "", false)
def tyJx3cf43 : Nat → FieldType := fun k => match k with
  | _ => .int
abbrev wsJx3cf430 : List Cond := u_ws RJx3cf43 TJx3cf43 0
theorem nmJx3cf43 : ∀ a, a < 0 → ∀ b, b < 0 → a ≠ b → (TJx3cf43 a).2.1 ≠ (TJx3cf43 b).2.1 := by decide +kernel
theorem tyJx3cf43_ok : ∀ k, k < 0 → parseFieldDescriptor (TJx3cf43 k).2.2.1 = some (tyJx3cf43 k) := by decide +kernel
def RJ7 : String := "java/util/Arrays"
def TJ7 : u_T := fun k => match k with
  | _ => ("", "", "", false)
def tyJ7 : Nat → FieldType := fun k => match k with
  | _ => .int
abbrev wsJ70 : List Cond := u_ws RJ7 TJ7 0
theorem nmJ7 : ∀ a, a < 0 → ∀ b, b < 0 → a ≠ b → (TJ7 a).2.1 ≠ (TJ7 b).2.1 := by decide +kernel
theorem tyJ7_ok : ∀ k, k < 0 → parseFieldDescriptor (TJ7 k).2.2.1 = some (tyJ7 k) := by decide +kernel
abbrev cJ7_fill_53178 : ByteArray := prog_18_method_103_code
def yJ7_fill_53178 : MethodName := ⟨RJ7, "fill", "([II)V"⟩
def RJ3 : String := "jdk/internal/util/Preconditions"
def TJ3 : u_T := fun k => match k with
  | _ => ("", "", "", false)
def tyJ3 : Nat → FieldType := fun k => match k with
  | _ => .int
abbrev wsJ30 : List Cond := u_ws RJ3 TJ3 0
theorem nmJ3 : ∀ a, a < 0 → ∀ b, b < 0 → a ≠ b → (TJ3 a).2.1 ≠ (TJ3 b).2.1 := by decide +kernel
theorem tyJ3_ok : ∀ k, k < 0 → parseFieldDescriptor (TJ3 k).2.2.1 = some (tyJ3 k) := by decide +kernel
abbrev cJ3_checkIndex_8e157 : ByteArray := prog_19_method_11_code
def yJ3_checkIndex_8e157 : MethodName := ⟨RJ3, "checkIndex", "(IILjava/util/function/BiFunction;)I"⟩
abbrev cJ3_checkFromToIndex_8c36e : ByteArray := prog_19_method_12_code
def yJ3_checkFromToIndex_8c36e : MethodName := ⟨RJ3, "checkFromToIndex", "(IIILjava/util/function/BiFunction;)I"⟩
def RL : String := "GapTellingsLaw"
abbrev cL_law : ByteArray := code
def yL_law : MethodName := ⟨RL, "law", "([I)Z"⟩
end
section
/-! ===== the tables' words that stay, and the words of nest mates ===== -/
def tb : List Cond := lw_tbl.filter goodWord
def isNest : Cond → Bool
  | .fieldLinkNest .. => true
  | .methodLinkNest .. => true
  | _ => false
def nw : List Cond := tables_1.filter isNest
theorem tb_mem {w : Cond} (h : w ∈ tables_1) (hg : goodWord w = true) : w ∈ tb := List.mem_filter.mpr ⟨List.mem_append_right _ h, hg⟩
theorem tb_sel {q : MethodName × Nat} (h : q ∈ lw_privs) (hg : goodWord (Cond.selects q.1.cls q.1 q.1) = true) : Cond.selects q.1.cls q.1 q.1 ∈ tb :=
  List.mem_filter.mpr ⟨List.mem_append_left _ (List.mem_map.mpr ⟨q, h, rfl⟩), hg⟩
theorem nw_mem {w : Cond} (h : w ∈ tables_1) (hg : isNest w = true) : w ∈ nw := List.mem_filter.mpr ⟨h, hg⟩
theorem t_in1 {w : Cond} (h : w ∈ tables_1_1) : w ∈ tables_1 := List.mem_append_left _ h
theorem t_in2 {w : Cond} (h : w ∈ tables_1_2) : w ∈ tables_1 := List.mem_append_right _ (List.mem_append_left _ h)
theorem t_in3 {w : Cond} (h : w ∈ tables_1_3) : w ∈ tables_1 := List.mem_append_right _ (List.mem_append_right _ (List.mem_append_left _ h))
theorem t_in4 {w : Cond} (h : w ∈ tables_1_4) : w ∈ tables_1 := List.mem_append_right _ (List.mem_append_right _ (List.mem_append_right _ (List.mem_append_left _ h)))
theorem t_in5 {w : Cond} (h : w ∈ tables_1_5) : w ∈ tables_1 := List.mem_append_right _ (List.mem_append_right _ (List.mem_append_right _ (List.mem_append_right _ h)))
def NWX (U : State) : Prop := ∀ w ∈ nw, va_Nw w U
theorem NWX.warm {s U : State} (hW : s.WarmedH U.vm) (h : NWX s) : NWX U := by
  intro w hw
  have hn := (List.mem_filter.mp hw).2
  have h1 := h w hw
  cases w with
  | fieldLinkNest a i b n d k => exact va_Nw.warmF hW h1
  | methodLinkNest a i x k => exact va_Nw.warmM hW h1
  | _ => exact absurd hn (by simp [isNest])
theorem NWX.same {u U : State} (h : u.vm = U.vm) (hZ : NWX u) : NWX U := by
  intro w hw
  have hn := (List.mem_filter.mp hw).2
  have h1 := hZ w hw
  cases w with
  | fieldLinkNest a i b n d k => exact va_Nw.same rfl h h1
  | methodLinkNest a i x k => exact va_Nw.same rfl h h1
  | _ => exact absurd hn (by simp [isNest])
theorem good_tb {y : MethodName} {b : ByteArray} {n : Nat} {r : Option FieldType} {big : List Cond} (hb : ∀ w ∈ tb, w ∈ big) (h : Cond.code y b n r ∈ tb) : GoodIn big (Cond.code y b n r :: tb) := by
  intro w hw
  have hw' : w ∈ tb := by
    rcases List.mem_cons.mp hw with e | h'
    · rw [e]; exact h
    · exact h'
  exact ⟨hb w hw', good_of_word (List.mem_filter.mp hw').2⟩
/-! ===== the cells: regions; a cell is a region and an index in it ===== -/
abbrev Mem : Type := Nat → Int → Int → Int
abbrev PV : Type := Int ⊕ (Nat × Int)
abbrev inR (x : Int) : Prop := -2147483648 ≤ x ∧ x ≤ 2147483647
/-- a region: its kind (a class's number; 20 ints, 21 chars, 22 pictures), its slots, how many cells -/
def rgT : List (Nat × Nat × Int) := [(7, 13, 1), (21, 200, 1), (5, 4, 1), (20, 9, 1), (20, 9, 1), (1, 9, 2), (20, 4, 2), (20, 12, 2), (20, 12, 2), (20, 12, 2), (22, 7, 2), (3, 7, 14), (20, 3, 14), (20, 3, 14), (6, 4, 2), (20, 100, 2), (20, 101, 2), (20, 101, 2), (4, 3, 3), (20, 7, 3), (20, 7, 3), (0, 2, 1), (20, 12928, 1), (2, 10, 1), (99, 0, 0), (99, 0, 0), (99, 0, 0), (99, 0, 0), (99, 0, 0), (99, 0, 0), (8, 29, 1), (20, 200, 1), (99, 0, 0), (99, 0, 0), (99, 0, 0), (20, 36, 1), (99, 0, 0), (20, 77, 1), (20, 4, 1), (99, 0, 0), (99, 0, 0), (99, 0, 0), (20, 36, 1), (99, 0, 0), (20, 77, 1), (20, 7, 1), (20, 7, 1), (20, 7, 1), (20, 7, 1), (20, 7, 1), (20, 7, 1), (20, 21, 1), (20, 100, 1), (20, 12928, 1), (20, 15, 1), (20, 22, 1), (20, 33, 1)]
def kd (r : Nat) : Nat := (rgT.getD r (99, 0, 0)).1
def sz (r : Nat) : Nat := (rgT.getD r (99, 0, 0)).2.1
def cn (r : Nat) : Int := (rgT.getD r (99, 0, 0)).2.2
/-- where a field that is a reference leads -/
def rf (r : Nat) (i : Int) (j : Nat) : Option (Nat × Int) := match r, j with
  | 0, 0 => some (1, 0) | 0, 2 => some (2, 0) | 0, 3 => some (5, 0) | 0, 4 => some (5, 1) | 0, 5 => some (14, 0) | 0, 6 => some (14, 1)
  | 0, 7 => some (18, 0) | 0, 8 => some (21, 0) | 0, 9 => some (18, 1) | 0, 12 => some (23, 0)
  | 2, 0 => some (3, 0) | 2, 1 => some (4, 0)
  | 5, 2 => some (6, i) | 5, 4 => some (7, i) | 5, 5 => some (8, i) | 5, 6 => some (9, i) | 5, 8 => some (10, i)
  | 11, 5 => some (12, i) | 11, 6 => some (13, i)
  | 14, 0 => some (5, 1) | 14, 1 => some (15, i) | 14, 2 => some (16, i) | 14, 3 => some (17, i)
  | 18, 0 => some (5, 1) | 18, 1 => some (19, i) | 18, 2 => some (20, i)
  | 21, 0 => some (5, 1) | 21, 1 => some (22, 0)
  | 23, 0 => some (5, 1) | 23, 1 => some (14, 0) | 23, 2 => some (18, 2)
  | 30, 1 => some (31, 0) | 30, 5 => some (35, 0) | 30, 7 => some (37, 0) | 30, 8 => some (38, 0) | 30, 12 => some (42, 0) | 30, 14 => some (44, 0)
  | 30, 15 => some (45, 0) | 30, 16 => some (46, 0) | 30, 17 => some (47, 0) | 30, 18 => some (48, 0) | 30, 19 => some (49, 0) | 30, 20 => some (50, 0)
  | 30, 21 => some (51, 0) | 30, 22 => some (52, 0) | 30, 23 => some (53, 0) | 30, 24 => some (54, 0) | 30, 25 => some (55, 0) | 30, 26 => some (56, 0)
  | _, _ => none
abbrev classes : List vw_C := [(RX0, TX0, 2), (RX1, TX1, 9), (RX2, TX2, 10), (RX3, TX3, 7), (RX4, TX4, 3), (RX5, TX5, 4), (RX6, TX6, 4), (RX7, TX7, 13), (RX8, TX8, 29)]
abbrev AD : Type := Nat → Int → Nat
abbrev CS : Type := ClassId × ClassId × ClassId
abbrev tysX (cs : CS) : List (ClassId × FieldType) := [(cs.1, .int), (cs.2.1, .char), (cs.2.2, .object RX3)]
def fvl (ad : AD) (r : Nat) (i : Int) (f : Int → Int) (j : Nat) : Value := match rf r i j with
  | some q => .ref (ad q.1 q.2)
  | none => .int (Int32.ofInt (f j))
def ent (ad : AD) (cs : CS) (r : Nat) (i : Int) (f : Int → Int) : va_E :=
  if kd r = 20 then .inl (cs.1, sz r, .inl (fun j => Int32.ofInt (f j)))
  else if kd r = 21 then .inl (cs.2.1, sz r, .inl (fun j => Int32.ofInt (f j)))
  else if kd r = 22 then .inl (cs.2.2, sz r, .inr (.inr (.inr (.inr (fun j => some (ad 11 (7 * i + j)))))))
  else .inr (kd r, (List.range (sz r)).map (fvl ad r i f))
def okV (dom : Nat → Bool) : PV → Prop
  | .inl x => inR x
  | .inr q => dom q.1 = true ∧ 0 ≤ q.2 ∧ q.2 < cn q.1
def okS (dom : Nat → Bool) : List PV → Prop
  | [] => True
  | v :: t => okV dom v ∧ okS dom t
def okL (dom : Nat → Bool) : List (Option PV) → Prop
  | [] => True
  | some v :: t => okV dom v ∧ okL dom t
  | none :: t => okL dom t
def okM (M : Mem) : Prop := ∀ r i j, inR (M r i j)
def up3 (M : Mem) (r : Nat) (i j v : Int) : Mem := fun r' i' j' => if r' = r ∧ i' = i ∧ j' = j then v else M r' i' j'
theorem okM_upd {M : Mem} (h : okM M) {r : Nat} {i j v : Int} (hv : inR v) : okM (up3 M r i j v) := by
  intro r' i' j'
  unfold up3
  split
  · exact hv
  · exact h r' i' j'
def HI (D : va_G) (ad : AD) (cs : CS) (dom : Nat → Bool) (M : Mem) (H : Heap) : Prop :=
  ∀ (r : Nat) (i : Int), dom r = true → 0 ≤ i → i < cn r → va_at D classes (ad r i, ent ad cs r i (M r i)) H
def Inj (ad : AD) (dom : Nat → Bool) : Prop := ∀ r i r' i', dom r = true → 0 ≤ i → i < cn r → dom r' = true → 0 ≤ i' → i' < cn r' → ad r i = ad r' i' → r = r' ∧ i = i'
def frA (ad : AD) (dom : Nat → Bool) : Nat → Prop := fun a => ∃ r i, dom r = true ∧ 0 ≤ i ∧ i < cn r ∧ a = ad r i
def emb (ad : AD) : PV → Value
  | .inl x => .int (Int32.ofInt x)
  | .inr q => .ref (ad q.1 q.2)
theorem emb_cat (ad : AD) (v : PV) : (emb ad v).category = 1 := by cases v <;> rfl
/-! ===== numbers ===== -/
theorem oi_toInt {x : Int} (h : inR x) : (Int32.ofInt x).toInt = x := Int32.toInt_ofInt_of_le (by have := h.1; omega) (by have := h.2; omega)
theorem oi_le {x y : Int} (hx : inR x) (hy : inR y) : Int32.ofInt x ≤ Int32.ofInt y ↔ x ≤ y := by rw [Int32.le_iff_toInt_le, oi_toInt hx, oi_toInt hy]
theorem oi_lt {x y : Int} (hx : inR x) (hy : inR y) : Int32.ofInt x < Int32.ofInt y ↔ x < y := by rw [Int32.lt_iff_toInt_lt, oi_toInt hx, oi_toInt hy]
theorem oi_eq {x y : Int} (hx : inR x) (hy : inR y) : Int32.ofInt x = Int32.ofInt y ↔ x = y := by rw [← Int32.toInt_inj, oi_toInt hx, oi_toInt hy]
theorem oi_0 : Int32.ofInt 0 = 0 := rfl
theorem toInt_inR (x : Int32) : inR x.toInt := by
  have h1 := Int32.le_toInt x
  have h2 := Int32.toInt_lt x
  constructor <;> omega
theorem oi_in {x : Int} {n : Nat} (hx : inR x) (h0 : 0 ≤ x) (hn : x < n) : vp_in (Int32.ofInt x) n := by
  rw [vp_in_iff, oi_toInt hx]
  exact ⟨h0, hn⟩
theorem oi_clamp {x : Int} (hx : inR x) : (Int32.ofInt x).toNatClampNeg = x.toNat := by
  show (Int32.ofInt x).toInt.toNat = _
  rw [oi_toInt hx]
theorem oi_nat {x : Int} (h0 : 0 ≤ x) : ((x.toNat : Nat) : Int) = x := by omega
end
section
/-! ===== locals ===== -/
def prs (ad : AD) (lv : List (Option PV)) : List (Nat × Value) := (List.range lv.length).filterMap (fun k => match lv[k]? with
  | some (some v) => some (k, emb ad v)
  | _ => none)
theorem prs_mem {ad : AD} {lv : List (Option PV)} {q : Nat × Value} : q ∈ prs ad lv ↔ ∃ v, lv[q.1]? = some (some v) ∧ q.2 = emb ad v := by
  unfold prs
  rw [List.mem_filterMap]
  constructor
  · rintro ⟨k, hk, h⟩
    split at h
    · rename_i v hv
      cases h
      exact ⟨v, hv, rfl⟩
    · cases h
  · rintro ⟨v, hv, h⟩
    refine ⟨q.1, List.mem_range.mpr ?_, ?_⟩
    · exact (List.getElem?_eq_some_iff.mp hv).1
    · rw [hv]
      obtain ⟨a, b⟩ := q
      subst h
      rfl
theorem prs_at {ad : AD} {ls : Array Slot} {nL : Nat} {lv : List (Option PV)} (h : lv_has ls nL (prs ad lv)) {k : Nat} {v : PV} (hk : lv[k]? = some (some v)) : ls[k]? = some (.val (emb ad v)) :=
  h.2.2 (k, emb ad v) (prs_mem.mpr ⟨v, hk, rfl⟩)
theorem prs_set {ad : AD} {ls : Array Slot} {nL : Nat} {lv : List (Option PV)} {i : Nat} {v : PV} (hi : i < lv.length) (h : lv_has ls nL ((i, emb ad v) :: (prs ad lv).filter (fun q => !(q.1 == i) && !(q.1 + 1 == i && q.2.category == 2)))) : lv_has ls nL (prs ad (lv.set i (some v))) := by
  refine ⟨h.1, h.2.1, ?_⟩
  intro q hq
  obtain ⟨w, hw, he⟩ := prs_mem.mp hq
  obtain ⟨a, b⟩ := q
  dsimp only at hw he ⊢
  subst he
  by_cases hai : a = i
  · subst hai
    rw [List.getElem?_set_self hi] at hw
    cases hw
    exact h.2.2 (a, emb ad v) List.mem_cons_self
  · rw [List.getElem?_set_ne (Ne.symm hai)] at hw
    refine h.2.2 (a, emb ad w) (List.mem_cons_of_mem _ (List.mem_filter.mpr ⟨prs_mem.mpr ⟨w, hw, rfl⟩, ?_⟩))
    simp [hai, emb_cat]
theorem prs_sub {ad : AD} {ls : Array Slot} {nL : Nat} {lv lv' : List (Option PV)} (hs : ∀ (k : Nat) (v : PV), lv'[k]? = some (some v) → lv[k]? = some (some v)) (h : lv_has ls nL (prs ad lv)) : lv_has ls nL (prs ad lv') := by
  refine ⟨h.1, h.2.1, fun q hq => ?_⟩
  obtain ⟨w, hw, he⟩ := prs_mem.mp hq
  exact h.2.2 q (prs_mem.mpr ⟨w, hs _ _ hw, he⟩)
theorem okL_get {dom : Nat → Bool} {lv : List (Option PV)} (h : okL dom lv) {k : Nat} {v : PV} (hk : lv[k]? = some (some v)) : okV dom v := by
  induction lv generalizing k with
  | nil => simp at hk
  | cons a t ih =>
    cases k with
    | zero =>
      simp at hk
      subst hk
      exact h.1
    | succ k =>
      have ht : okL dom t := by cases a with
        | none => exact h
        | some w => exact h.2
      exact ih ht (by simpa using hk)
theorem okL_set {dom : Nat → Bool} {lv : List (Option PV)} (h : okL dom lv) {k : Nat} {v : PV} (hv : okV dom v) : okL dom (lv.set k (some v)) := by
  induction lv generalizing k with
  | nil => exact trivial
  | cons a t ih =>
    have ht : okL dom t := by cases a with
      | none => exact h
      | some w => exact h.2
    cases k with
    | zero => exact ⟨hv, ht⟩
    | succ k =>
      cases a with
      | none => exact ih ht
      | some w => exact ⟨h.1, ih ht⟩
theorem okL_sub {dom : Nat → Bool} {lv' lv : List (Option PV)} (hs : ∀ (k : Nat) (v : PV), lv'[k]? = some (some v) → lv[k]? = some (some v)) (h : okL dom lv) : okL dom lv' := by
  have key : ∀ l : List (Option PV), (∀ (k : Nat) (v : PV), l[k]? = some (some v) → okV dom v) → okL dom l := by
    intro l
    induction l with
    | nil => intro _; exact trivial
    | cons a t ih =>
      intro hh
      have ht := ih (fun k v e => hh (k + 1) v (by simpa using e))
      cases a with
      | none => exact ht
      | some w => exact ⟨hh 0 w rfl, ht⟩
  exact key lv' (fun k v e => okL_get h (hs k v e))
/-! ===== the judgement ===== -/
abbrev Kx : Type := (Program × Launch × Env × Room × State) × (MethodId × Array Value × List Frame × Method × Code) × (va_G × AD × CS × (Nat → Bool))
abbrev Kont : Type := Option Int → Mem → Prop
def QcX (D : va_G) (ad : AD) (cs : CS) (dom : Nat → Bool) (K : Kont) : Array Value → State → Outcome → State → Prop := fun _ st o t =>
  (∃ (r : Option Int) (M' : Mem), o = .returned (r.map fun x => .int (Int32.ofInt x)) ∧ (∀ x, r = some x → inR x) ∧ okM M' ∧ K r M' ∧ HI D ad cs dom M' t.heap) ∧ va_F (frA ad dom) st t
def V (κ : Kx) (nL : Nat) (M : Mem) (pc : Nat) (lv : List (Option PV)) (st : List PV) (K : Kont) : Prop :=
  (okM M → okL κ.2.2.2.2.2 lv → okS κ.2.2.2.2.2 st → ∀ (H : Heap) (locs : List Loc) (ls : Array Slot), HI κ.2.2.1 κ.2.2.2.1 κ.2.2.2.2.1 κ.2.2.2.2.2 M H →
    va_S (frA κ.2.2.2.1 κ.2.2.2.2.2) κ.1.2.2.2.2.heap H locs → lv_has ls nL (prs κ.2.2.2.1 lv) →
    W κ.1.1 κ.1.2.1 κ.1.2.2.1 κ.1.2.2.2.1 κ.1.2.2.2.2 κ.2.1.1 κ.2.1.2.1 κ.2.1.2.2.1 κ.2.1.2.2.2.1 κ.2.1.2.2.2.2 H locs 0 0
      (MQ κ.2.1.2.2.1 (QcX κ.2.2.1 κ.2.2.2.1 κ.2.2.2.2.1 κ.2.2.2.2.2 K) κ.2.1.2.1 κ.1.2.2.2.2 0 0 (frA κ.2.2.2.1 κ.2.2.2.2.2)) (F0 κ.2.1.1 pc ls (st.map (emb κ.2.2.2.1)))) ∧ True
def Dm (dom : Nat → Bool) : Prop := dom = (fun r => Nat.blt r 24) ∨ dom = (fun r => Nat.ble 30 r)
def Cx (κ : Kx) (own : String) (cc : ByteArray) (nL : Nat) (ret : Option FieldType) (rm : Room) (dom : Nat → Bool) : Prop :=
  κ.1.1.tables.exec = Jvm.exec ∧ κ.2.1.2.2.2.2.code = cc ∧ κ.2.1.2.2.2.2.maxLocals = nL ∧ κ.1.2.2.2.2.vm.findClass own = some κ.2.1.1.cls ∧ (∀ w ∈ tb, w.before κ.2.1.2.1 κ.1.2.2.2.2 = true) ∧ NWX κ.1.2.2.2.2 ∧
  va_K κ.2.2.1 classes (tysX κ.2.2.2.2.1) κ.1.2.2.2.2 ∧ Inj κ.2.2.2.1 κ.2.2.2.2.2 ∧ κ.2.1.2.2.2.1.locks = false ∧ κ.2.1.2.2.2.1.sig.returnType = ret ∧ κ.1.2.2.2.1 = rm ∧ κ.2.2.2.2.2 = dom ∧ Dm dom
section VR
variable {κ : Kx} {own : String} {cc : ByteArray} {nL : Nat} {ret : Option FieldType} {rm : Room} {dom : Nat → Bool} {M : Mem} {pc : Nat} {lv : List (Option PV)} {st : List PV} {K : Kont}
def leL : List (Option PV) → List (Option PV) → Prop
  | [], _ => True
  | none :: t, _ :: u => leL t u
  | some v :: t, some w :: u => v = w ∧ leL t u
  | _, _ => False
theorem leL_get : ∀ (a b : List (Option PV)), leL a b → ∀ (k : Nat) (v : PV), a[k]? = some (some v) → b[k]? = some (some v)
  | [], _, _, k, v, h => by simp at h
  | none :: t, [], h, k, v, e => absurd h (by simp [leL])
  | none :: t, b :: u, h, 0, v, e => by simp at e
  | none :: t, b :: u, h, k + 1, v, e => by
    have := leL_get t u h k v (by simpa using e)
    simpa using this
  | some w :: t, [], h, k, v, e => absurd h (by simp [leL])
  | some w :: t, none :: u, h, k, v, e => absurd h (by simp [leL])
  | some w :: t, some x :: u, h, 0, v, e => by
    have h1 : w = x := h.1
    subst h1
    simpa using e
  | some w :: t, some x :: u, h, k + 1, v, e => by
    have := leL_get t u h.2 k v (by simpa using e)
    simpa using this
theorem v_weak (lv' : List (Option PV)) (hs : leL lv' lv) (k : V κ nL M pc lv' st K) : V κ nL M pc lv st K := by
  refine ⟨?_, trivial⟩
  intro oM oL oS H locs ls hH hS hl
  exact k.1 oM (okL_sub (leL_get lv' lv hs) oL) oS H locs ls hH hS (prs_sub (leL_get lv' lv hs) hl)
theorem v_okM (k : okM M → V κ nL M pc lv st K) : V κ nL M pc lv st K := ⟨fun oM => (k oM).1 oM, trivial⟩
theorem v_iconst (C : Cx κ own cc nL ret rm dom) {n : Int} (hd : decode cc pc = .ok (.iconst n, 1)) (ho : inR n) (k : V κ nL M (pc + 1) lv (.inl n :: st) K) : V κ nL M pc lv st K := by
  refine ⟨?_, trivial⟩
  intro oM oL oS H locs ls hH hS hl
  exact lv_iconst C.1 C.2.1 hd rfl (k.1 oM oL ⟨ho, oS⟩ H locs ls hH hS hl)
theorem v_bipush (C : Cx κ own cc nL ret rm dom) {n : Int} (hd : decode cc pc = .ok (.bipush n, 2)) (hv : (Int8.ofInt n).toInt32 = Int32.ofInt n) (ho : inR n) (k : V κ nL M (pc + 2) lv (.inl n :: st) K) : V κ nL M pc lv st K := by
  refine ⟨?_, trivial⟩
  intro oM oL oS H locs ls hH hS hl
  exact lv_bipush C.1 C.2.1 hd hv (k.1 oM oL ⟨ho, oS⟩ H locs ls hH hS hl)
theorem v_sipush (C : Cx κ own cc nL ret rm dom) {n : Int} (hd : decode cc pc = .ok (.sipush n, 3)) (hv : (Int16.ofInt n).toInt32 = Int32.ofInt n) (ho : inR n) (k : V κ nL M (pc + 3) lv (.inl n :: st) K) : V κ nL M pc lv st K := by
  refine ⟨?_, trivial⟩
  intro oM oL oS H locs ls hH hS hl
  exact lv_sipush C.1 C.2.1 hd hv (k.1 oM oL ⟨ho, oS⟩ H locs ls hH hS hl)
theorem v_ldc (C : Cx κ own cc nL ret rm dom) {idx : Nat} {n : Int} (hd : decode cc pc = .ok (.ldc idx, 2)) (hc : Cond.constant own idx (Int32.ofInt n) ∈ tb) (ho : inR n) (k : V κ nL M (pc + 2) lv (.inl n :: st) K) : V κ nL M pc lv st K := by
  refine ⟨?_, trivial⟩
  intro oM oL oS H locs ls hH hS hl
  exact lv_ldc C.1 C.2.1 C.2.2.2.1 (C.2.2.2.2.1 _ hc) hd (k.1 oM oL ⟨ho, oS⟩ H locs ls hH hS hl)
theorem v_iload_n (C : Cx κ own cc nL ret rm dom) {i : Fin 4} {x : Int} (hd : decode cc pc = .ok (.iload_n i, 1)) (hv : lv[i.val]? = some (some (.inl x))) (k : V κ nL M (pc + 1) lv (.inl x :: st) K) : V κ nL M pc lv st K := by
  refine ⟨?_, trivial⟩
  intro oM oL oS H locs ls hH hS hl
  exact lv_iload_n C.1 C.2.1 hd rfl (prs_at hl hv) (k.1 oM oL ⟨okL_get oL hv, oS⟩ H locs ls hH hS hl)
theorem v_iload (C : Cx κ own cc nL ret rm dom) {i : Nat} {x : Int} (hd : decode cc pc = .ok (.iload i, 2)) (hv : lv[i]? = some (some (.inl x))) (k : V κ nL M (pc + 2) lv (.inl x :: st) K) : V κ nL M pc lv st K := by
  refine ⟨?_, trivial⟩
  intro oM oL oS H locs ls hH hS hl
  exact lv_iload C.1 C.2.1 hd (prs_at hl hv) (k.1 oM oL ⟨okL_get oL hv, oS⟩ H locs ls hH hS hl)
theorem v_aload_n (C : Cx κ own cc nL ret rm dom) {i : Fin 4} {q : Nat × Int} (hd : decode cc pc = .ok (.aload_n i, 1)) (hv : lv[i.val]? = some (some (.inr q))) (k : V κ nL M (pc + 1) lv (.inr q :: st) K) : V κ nL M pc lv st K := by
  refine ⟨?_, trivial⟩
  intro oM oL oS H locs ls hH hS hl
  exact lv_aload_n C.1 C.2.1 hd rfl (prs_at hl hv) (k.1 oM oL ⟨okL_get oL hv, oS⟩ H locs ls hH hS hl)
theorem v_aload (C : Cx κ own cc nL ret rm dom) {i : Nat} {q : Nat × Int} (hd : decode cc pc = .ok (.aload i, 2)) (hv : lv[i]? = some (some (.inr q))) (k : V κ nL M (pc + 2) lv (.inr q :: st) K) : V κ nL M pc lv st K := by
  refine ⟨?_, trivial⟩
  intro oM oL oS H locs ls hH hS hl
  exact lv_aload C.1 C.2.1 hd (prs_at hl hv) (k.1 oM oL ⟨okL_get oL hv, oS⟩ H locs ls hH hS hl)
theorem v_istore_n (C : Cx κ own cc nL ret rm dom) {i : Fin 4} {x : Int} {lv' : List (Option PV)} (hd : decode cc pc = .ok (.istore_n i, 1)) (hi : i.val < nL) (hj : i.val < lv.length) (hv : lv.set i.val (some (.inl x)) = lv') (k : V κ nL M (pc + 1) lv' st K) : V κ nL M pc lv (.inl x :: st) K := by
  refine ⟨?_, trivial⟩
  intro oM oL oS H locs ls hH hS hl
  subst hv
  exact lv_istore_n C.1 C.2.1 hd rfl hl hi rfl (fun ls' hl' => k.1 oM (okL_set oL oS.1) oS.2 H locs ls' hH hS (prs_set (v := .inl x) hj hl'))
theorem v_istore (C : Cx κ own cc nL ret rm dom) {i : Nat} {x : Int} {lv' : List (Option PV)} (hd : decode cc pc = .ok (.istore i, 2)) (hi : i < nL) (hj : i < lv.length) (hv : lv.set i (some (.inl x)) = lv') (k : V κ nL M (pc + 2) lv' st K) : V κ nL M pc lv (.inl x :: st) K := by
  refine ⟨?_, trivial⟩
  intro oM oL oS H locs ls hH hS hl
  subst hv
  exact lv_istore C.1 C.2.1 hd hl hi rfl (fun ls' hl' => k.1 oM (okL_set oL oS.1) oS.2 H locs ls' hH hS (prs_set (v := .inl x) hj hl'))
theorem v_astore_n (C : Cx κ own cc nL ret rm dom) {i : Fin 4} {q : Nat × Int} {lv' : List (Option PV)} (hd : decode cc pc = .ok (.astore_n i, 1)) (hi : i.val < nL) (hj : i.val < lv.length) (hv : lv.set i.val (some (.inr q)) = lv') (k : V κ nL M (pc + 1) lv' st K) : V κ nL M pc lv (.inr q :: st) K := by
  refine ⟨?_, trivial⟩
  intro oM oL oS H locs ls hH hS hl
  subst hv
  exact lv_astore_n C.1 C.2.1 hd rfl hl hi rfl (fun ls' hl' => k.1 oM (okL_set oL oS.1) oS.2 H locs ls' hH hS (prs_set (v := .inr q) hj hl'))
theorem v_astore (C : Cx κ own cc nL ret rm dom) {i : Nat} {q : Nat × Int} {lv' : List (Option PV)} (hd : decode cc pc = .ok (.astore i, 2)) (hi : i < nL) (hj : i < lv.length) (hv : lv.set i (some (.inr q)) = lv') (k : V κ nL M (pc + 2) lv' st K) : V κ nL M pc lv (.inr q :: st) K := by
  refine ⟨?_, trivial⟩
  intro oM oL oS H locs ls hH hS hl
  subst hv
  exact lv_astore C.1 C.2.1 hd hl hi rfl (fun ls' hl' => k.1 oM (okL_set oL oS.1) oS.2 H locs ls' hH hS (prs_set (v := .inr q) hj hl'))
theorem v_iinc (C : Cx κ own cc nL ret rm dom) {i : Nat} {n x : Int} {lv' : List (Option PV)} (hd : decode cc pc = .ok (.iinc i n, 3)) (hi : i < nL) (hx : lv[i]? = some (some (.inl x))) (ho : inR (x + n)) (hv : lv.set i (some (.inl (x + n))) = lv') (k : V κ nL M (pc + 3) lv' st K) : V κ nL M pc lv st K := by
  refine ⟨?_, trivial⟩
  intro oM oL oS H locs ls hH hS hl
  subst hv
  have hm : (i, Value.int (Int32.ofInt x)) ∈ prs κ.2.2.2.1 lv := prs_mem.mpr ⟨.inl x, hx, rfl⟩
  obtain ⟨k0, hk0⟩ := List.getElem?_of_mem hm
  exact lv_iinc C.1 C.2.1 hd hl hk0 (v := Int32.ofInt (x + n)) (by rw [Int32.ofInt_add]) hi rfl (fun ls' hl' => k.1 oM (okL_set oL ho) oS H locs ls' hH hS (prs_set (v := .inl (x + n)) ((List.getElem?_eq_some_iff.mp hx).1) hl'))
theorem v_iadd (C : Cx κ own cc nL ret rm dom) {x y : Int} (hd : decode cc pc = .ok (.iadd, 1)) (ho : inR (x + y)) (k : V κ nL M (pc + 1) lv (.inl (x + y) :: st) K) : V κ nL M pc lv (.inl y :: .inl x :: st) K := by
  refine ⟨?_, trivial⟩
  intro oM oL oS H locs ls hH hS hl
  have h := k.1 oM oL ⟨ho, oS.2.2⟩ H locs ls hH hS hl
  refine lv_iadd C.1 C.2.1 hd ?_
  rw [← Int32.ofInt_add]
  exact h
theorem v_isub (C : Cx κ own cc nL ret rm dom) {x y : Int} (hd : decode cc pc = .ok (.isub, 1)) (ho : inR (x - y)) (k : V κ nL M (pc + 1) lv (.inl (x - y) :: st) K) : V κ nL M pc lv (.inl y :: .inl x :: st) K := by
  refine ⟨?_, trivial⟩
  intro oM oL oS H locs ls hH hS hl
  have h := k.1 oM oL ⟨ho, oS.2.2⟩ H locs ls hH hS hl
  refine lv_isub C.1 C.2.1 hd ?_
  rw [← Int32.ofInt_sub]
  exact h
theorem v_imul (C : Cx κ own cc nL ret rm dom) {x y : Int} (hd : decode cc pc = .ok (.imul, 1)) (ho : inR (x * y)) (k : V κ nL M (pc + 1) lv (.inl (x * y) :: st) K) : V κ nL M pc lv (.inl y :: .inl x :: st) K := by
  refine ⟨?_, trivial⟩
  intro oM oL oS H locs ls hH hS hl
  have h := k.1 oM oL ⟨ho, oS.2.2⟩ H locs ls hH hS hl
  refine lv_imul C.1 C.2.1 hd ?_
  rw [← Int32.ofInt_mul]
  exact h
theorem v_ineg (C : Cx κ own cc nL ret rm dom) {x : Int} (hd : decode cc pc = .ok (.ineg, 1)) (ho : inR (-x)) (k : V κ nL M (pc + 1) lv (.inl (-x) :: st) K) : V κ nL M pc lv (.inl x :: st) K := by
  refine ⟨?_, trivial⟩
  intro oM oL oS H locs ls hH hS hl
  have h := k.1 oM oL ⟨ho, oS.2⟩ H locs ls hH hS hl
  refine lv_ineg C.1 C.2.1 hd ?_
  rw [← Int32.ofInt_neg]
  exact h
theorem oi_div {x y : Int} (hx : inR x) (hy : inR y) (h0 : 0 ≤ x) (h1 : 0 < y) : Int32.ofInt x / Int32.ofInt y = Int32.ofInt (x / y) := by
  have hq : inR (x / y) := ⟨by have := Int.ediv_nonneg h0 (Int.le_of_lt h1); omega, by have := Int.ediv_le_self y h0; have := hx.2; omega⟩
  apply Int32.toInt_inj.mp
  rw [Int32.toInt_div_of_ne_right _ _ (fun h => ?_), oi_toInt hx, oi_toInt hy, oi_toInt hq, Int.tdiv_eq_ediv_of_nonneg h0]
  have h2 : (Int32.ofInt y).toInt = (-1 : Int32).toInt := by rw [h]
  rw [oi_toInt hy] at h2
  have : (-1 : Int32).toInt = -1 := rfl
  omega
theorem v_idiv (C : Cx κ own cc nL ret rm dom) {x y : Int} (hd : decode cc pc = .ok (.idiv, 1)) (h0 : 0 ≤ x) (h1 : 0 < y) (k : V κ nL M (pc + 1) lv (.inl (x / y) :: st) K) : V κ nL M pc lv (.inl y :: .inl x :: st) K := by
  refine ⟨?_, trivial⟩
  intro oM oL oS H locs ls hH hS hl
  obtain ⟨hy, hx, oS⟩ := oS
  have hq : inR (x / y) := ⟨by have := Int.ediv_nonneg h0 (Int.le_of_lt h1); omega, by have := Int.ediv_le_self y h0; have := hx.2; omega⟩
  have h := k.1 oM oL ⟨hq, oS⟩ H locs ls hH hS hl
  refine lv_idiv C.1 C.2.1 hd (fun h => ?_) ?_
  · have := (oi_eq (y := 0) hy (by decide)).mp h
    omega
  · rw [oi_div hx hy h0 h1]
    exact h
theorem v_irem (C : Cx κ own cc nL ret rm dom) {x y : Int} (hd : decode cc pc = .ok (.irem, 1)) (h0 : 0 ≤ x) (h1 : 0 < y) (k : V κ nL M (pc + 1) lv (.inl (x % y) :: st) K) : V κ nL M pc lv (.inl y :: .inl x :: st) K := by
  refine ⟨?_, trivial⟩
  intro oM oL oS H locs ls hH hS hl
  obtain ⟨hy, hx, oS⟩ := oS
  have hq : inR (x % y) := ⟨by have := Int.emod_nonneg x (Int.ne_of_gt h1); omega, by have := Int.emod_lt_of_pos x h1; have := hy.2; omega⟩
  have h := k.1 oM oL ⟨hq, oS⟩ H locs ls hH hS hl
  refine lv_irem C.1 C.2.1 hd (fun h => ?_) ?_
  · have := (oi_eq (y := 0) hy (by decide)).mp h
    omega
  · rw [oi_div hx hy h0 h1, ← Int32.ofInt_mul, ← Int32.ofInt_sub]
    have e : x - x / y * y = x % y := by rw [Int.mul_comm]; have := Int.mul_ediv_add_emod x y; omega
    rw [e]
    exact h
def bAnd (x y : Int) : Int := (Int32.ofInt x &&& Int32.ofInt y).toInt
def bOr (x y : Int) : Int := (Int32.ofInt x ||| Int32.ofInt y).toInt
def bXor (x y : Int) : Int := (Int32.ofInt x ^^^ Int32.ofInt y).toInt
def bShl (x y : Int) : Int := (Int32.ofInt x <<< (Int32.ofInt y &&& 31)).toInt
def bShr (x y : Int) : Int := (Int32.ofInt x >>> (Int32.ofInt y &&& 31)).toInt
theorem v_iand (C : Cx κ own cc nL ret rm dom) {x y : Int} (hd : decode cc pc = .ok (.iand, 1)) (k : V κ nL M (pc + 1) lv (.inl (bAnd x y) :: st) K) : V κ nL M pc lv (.inl y :: .inl x :: st) K := by
  refine ⟨?_, trivial⟩
  intro oM oL oS H locs ls hH hS hl
  have h := k.1 oM oL ⟨toInt_inR _, oS.2.2⟩ H locs ls hH hS hl
  refine lv_iand C.1 C.2.1 hd ?_
  rw [← Int32.ofInt_toInt (Int32.ofInt x &&& Int32.ofInt y)]
  exact h
theorem v_ior (C : Cx κ own cc nL ret rm dom) {x y : Int} (hd : decode cc pc = .ok (.ior, 1)) (k : V κ nL M (pc + 1) lv (.inl (bOr x y) :: st) K) : V κ nL M pc lv (.inl y :: .inl x :: st) K := by
  refine ⟨?_, trivial⟩
  intro oM oL oS H locs ls hH hS hl
  have h := k.1 oM oL ⟨toInt_inR _, oS.2.2⟩ H locs ls hH hS hl
  refine lv_ior C.1 C.2.1 hd ?_
  rw [← Int32.ofInt_toInt (Int32.ofInt x ||| Int32.ofInt y)]
  exact h
theorem v_ixor (C : Cx κ own cc nL ret rm dom) {x y : Int} (hd : decode cc pc = .ok (.ixor, 1)) (k : V κ nL M (pc + 1) lv (.inl (bXor x y) :: st) K) : V κ nL M pc lv (.inl y :: .inl x :: st) K := by
  refine ⟨?_, trivial⟩
  intro oM oL oS H locs ls hH hS hl
  have h := k.1 oM oL ⟨toInt_inR _, oS.2.2⟩ H locs ls hH hS hl
  refine lv_ixor C.1 C.2.1 hd ?_
  rw [← Int32.ofInt_toInt (Int32.ofInt x ^^^ Int32.ofInt y)]
  exact h
theorem v_ishl (C : Cx κ own cc nL ret rm dom) {x y : Int} (hd : decode cc pc = .ok (.ishl, 1)) (k : V κ nL M (pc + 1) lv (.inl (bShl x y) :: st) K) : V κ nL M pc lv (.inl y :: .inl x :: st) K := by
  refine ⟨?_, trivial⟩
  intro oM oL oS H locs ls hH hS hl
  have h := k.1 oM oL ⟨toInt_inR _, oS.2.2⟩ H locs ls hH hS hl
  refine lv_ishl C.1 C.2.1 hd ?_
  rw [← Int32.ofInt_toInt (Int32.ofInt x <<< (Int32.ofInt y &&& 31))]
  exact h
theorem v_ishr (C : Cx κ own cc nL ret rm dom) {x y : Int} (hd : decode cc pc = .ok (.ishr, 1)) (k : V κ nL M (pc + 1) lv (.inl (bShr x y) :: st) K) : V κ nL M pc lv (.inl y :: .inl x :: st) K := by
  refine ⟨?_, trivial⟩
  intro oM oL oS H locs ls hH hS hl
  have h := k.1 oM oL ⟨toInt_inR _, oS.2.2⟩ H locs ls hH hS hl
  refine lv_ishr C.1 C.2.1 hd ?_
  rw [← Int32.ofInt_toInt (Int32.ofInt x >>> (Int32.ofInt y &&& 31))]
  exact h
theorem v_pop (C : Cx κ own cc nL ret rm dom) {v : PV} (hd : decode cc pc = .ok (.pop, 1)) (k : V κ nL M (pc + 1) lv st K) : V κ nL M pc lv (v :: st) K := by
  refine ⟨?_, trivial⟩
  intro oM oL oS H locs ls hH hS hl
  exact lv_pop C.1 C.2.1 hd (emb_cat _ v) (k.1 oM oL oS.2 H locs ls hH hS hl)
theorem v_dup (C : Cx κ own cc nL ret rm dom) {v : PV} (hd : decode cc pc = .ok (.dup, 1)) (k : V κ nL M (pc + 1) lv (v :: v :: st) K) : V κ nL M pc lv (v :: st) K := by
  refine ⟨?_, trivial⟩
  intro oM oL oS H locs ls hH hS hl
  exact lv_dup C.1 C.2.1 hd (emb_cat _ v) (k.1 oM oL ⟨oS.1, oS⟩ H locs ls hH hS hl)
theorem v_dup2 (C : Cx κ own cc nL ret rm dom) {v w : PV} (hd : decode cc pc = .ok (.dup2, 1)) (k : V κ nL M (pc + 1) lv (v :: w :: v :: w :: st) K) : V κ nL M pc lv (v :: w :: st) K := by
  refine ⟨?_, trivial⟩
  intro oM oL oS H locs ls hH hS hl
  exact lv_dup2_11 C.1 C.2.1 hd (emb_cat _ v) (emb_cat _ w) (k.1 oM oL ⟨oS.1, oS.2.1, oS⟩ H locs ls hH hS hl)
theorem v_goto (C : Cx κ own cc nL ret rm dom) {off : Int} {tgt : Nat} (hd : decode cc pc = .ok (.goto off, 3)) (ht : (pc : Int) + off = (tgt : Int)) (k : V κ nL M tgt lv st K) : V κ nL M pc lv st K := by
  refine ⟨?_, trivial⟩
  intro oM oL oS H locs ls hH hS hl
  exact lv_goto C.1 C.2.1 hd ht (k.1 oM oL oS H locs ls hH hS hl)
end VR
end
section
/-! ===== branches, fields, arrays, ends ===== -/
theorem rf_ok {dom : Nat → Bool} {r : Nat} {i : Int} {j : Nat} {q : Nat × Int} (hdom : Dm dom) (hi : dom r = true ∧ 0 ≤ i ∧ i < cn r) (h : rf r i j = some q) : okV dom (.inr q) := by
  obtain ⟨h1, h2, h3⟩ := hi
  unfold rf at h
  split at h
  all_goals first
    | (cases h; done)
    | (cases h
       rcases hdom with e | e <;> subst e <;> simp [okV, cn, rgT, Nat.blt, Nat.ble] at h1 h2 h3 ⊢ <;> omega)
def gv (M : Mem) (r : Nat) (i : Int) (j : Nat) : PV := match rf r i j with
  | some q => .inr q
  | none => .inl (M r i j)
/-- the word of a field at an index of a class's pool: class number, slot -/
def FL (own : String) (idx ci j : Nat) : Prop := ∃ (Cn : String) (T : u_T) (N : Nat), classes[ci]? = some (Cn, T, N) ∧ j < N ∧ (∀ w ∈ u_ws Cn T N, w ∈ tb) ∧
  (Cond.fieldLink own idx (T j).1 (T j).2.1 (T j).2.2.1 ∈ tb ∨ ∃ host : String, Cond.fieldLinkNest own idx (T j).1 (T j).2.1 (T j).2.2.1 host ∈ nw)
/-- may be written: an int, or a boolean -/
def PL (own : String) (idx ci j : Nat) (ty : FieldType) : Prop := ∃ (Cn : String) (T : u_T) (N : Nat), classes[ci]? = some (Cn, T, N) ∧ j < N ∧ (∀ w ∈ u_ws Cn T N, w ∈ tb) ∧
  (Cond.fieldLink own idx (T j).1 (T j).2.1 (T j).2.2.1 ∈ tb ∨ ∃ host : String, Cond.fieldLinkNest own idx (T j).1 (T j).2.1 (T j).2.2.1 host ∈ nw) ∧
  (T j).2.2.2 = false ∧ parseFieldDescriptor (T j).2.2.1 = some ty ∧ ∃ ty0 : Nat → FieldType, (∀ k, k < N → parseFieldDescriptor (T k).2.2.1 = some (ty0 k)) ∧ (∀ a, a < N → ∀ b, b < N → a ≠ b → (T a).2.1 ≠ (T b).2.1)
theorem Cx_dm {κ : Kx} {own : String} {cc : ByteArray} {nL : Nat} {ret : Option FieldType} {rm : Room} {dom : Nat → Bool} (C : Cx κ own cc nL ret rm dom) : Dm κ.2.2.2.2.2 := by
  rw [C.2.2.2.2.2.2.2.2.2.2.2.1]
  exact C.2.2.2.2.2.2.2.2.2.2.2.2
section VR2
variable {κ : Kx} {own : String} {cc : ByteArray} {nL : Nat} {ret : Option FieldType} {rm : Room} {dom : Nat → Bool} {M : Mem} {pc : Nat} {lv : List (Option PV)} {st : List PV} {K : Kont}
theorem v_icmp (C : Cx κ own cc nL ret rm dom) {cd : Jvm.ClassFile.Cond} {x y : Int} {off : Int} {tgt : Nat} {P : Prop} (hd : decode cc pc = .ok (.if_icmp cd off, 3)) (ht : (pc : Int) + off = (tgt : Int))
    (hP : match cd with | .eq => (x = y) = P | .ne => (x ≠ y) = P | .lt => (x < y) = P | .ge => (y ≤ x) = P | .gt => (y < x) = P | .le => (x ≤ y) = P)
    (kt : P → V κ nL M tgt lv st K) (kf : ¬ P → V κ nL M (pc + 3) lv st K) : V κ nL M pc lv (.inl y :: .inl x :: st) K := by
  refine ⟨?_, trivial⟩
  intro oM oL oS H locs ls hH hS hl
  obtain ⟨hy, hx, oS⟩ := oS
  have hx : inR x := hx
  have hy : inR y := hy
  have a := fun h : P => (kt h).1 oM oL oS H locs ls hH hS hl
  have b := fun h : ¬ P => (kf h).1 oM oL oS H locs ls hH hS hl
  cases cd <;> dsimp only at hP <;> subst hP
  · exact lv_icmp_eq C.1 C.2.1 hd ht (fun h => a ((oi_eq hx hy).mp h)) (fun h => b (fun q => h ((oi_eq hx hy).mpr q)))
  · exact lv_icmp_ne C.1 C.2.1 hd ht (fun h => a (fun q => h ((oi_eq hx hy).mpr q))) (fun h => b (fun q => q ((oi_eq hx hy).mp h)))
  · exact lv_icmp_lt C.1 C.2.1 hd ht (fun h => a ((oi_lt hx hy).mp h)) (fun h => b (fun q => h ((oi_lt hx hy).mpr q)))
  · exact lv_icmp_ge C.1 C.2.1 hd ht (fun h => a ((oi_le hy hx).mp h)) (fun h => b (fun q => h ((oi_le hy hx).mpr q)))
  · exact lv_icmp_gt C.1 C.2.1 hd ht (fun h => a ((oi_lt hy hx).mp h)) (fun h => b (fun q => h ((oi_lt hy hx).mpr q)))
  · exact lv_icmp_le C.1 C.2.1 hd ht (fun h => a ((oi_le hx hy).mp h)) (fun h => b (fun q => h ((oi_le hx hy).mpr q)))
theorem v_if (C : Cx κ own cc nL ret rm dom) {cd : Jvm.ClassFile.Cond} {x : Int} {off : Int} {tgt : Nat} {P : Prop} (hd : decode cc pc = .ok (.ifCond cd off, 3)) (ht : (pc : Int) + off = (tgt : Int))
    (hP : match cd with | .eq => (x = 0) = P | .ne => (x ≠ 0) = P | .lt => (x < 0) = P | .ge => (0 ≤ x) = P | .gt => (0 < x) = P | .le => (x ≤ 0) = P)
    (kt : P → V κ nL M tgt lv st K) (kf : ¬ P → V κ nL M (pc + 3) lv st K) : V κ nL M pc lv (.inl x :: st) K := by
  refine ⟨?_, trivial⟩
  intro oM oL oS H locs ls hH hS hl
  obtain ⟨hx, oS⟩ := oS
  have hx : inR x := hx
  have hy : inR 0 := by decide
  have a := fun h : P => (kt h).1 oM oL oS H locs ls hH hS hl
  have b := fun h : ¬ P => (kf h).1 oM oL oS H locs ls hH hS hl
  cases cd <;> dsimp only at hP <;> subst hP
  · exact lv_if_eq C.1 C.2.1 hd ht (fun h => a ((oi_eq hx hy).mp h)) (fun h => b (fun q => h ((oi_eq hx hy).mpr q)))
  · exact lv_if_ne C.1 C.2.1 hd ht (fun h => a (fun q => h ((oi_eq hx hy).mpr q))) (fun h => b (fun q => q ((oi_eq hx hy).mp h)))
  · exact lv_if_lt C.1 C.2.1 hd ht (fun h => a ((oi_lt hx hy).mp h)) (fun h => b (fun q => h ((oi_lt hx hy).mpr q)))
  · exact lv_if_ge C.1 C.2.1 hd ht (fun h => a ((oi_le hy hx).mp h)) (fun h => b (fun q => h ((oi_le hy hx).mpr q)))
  · exact lv_if_gt C.1 C.2.1 hd ht (fun h => a ((oi_lt hy hx).mp h)) (fun h => b (fun q => h ((oi_lt hy hx).mpr q)))
  · exact lv_if_le C.1 C.2.1 hd ht (fun h => a ((oi_le hx hy).mp h)) (fun h => b (fun q => h ((oi_le hx hy).mpr q)))
theorem v_tsw (C : Cx κ own cc nL ret rm dom) {dflt lo hi : Int} {offs : Array Int} {len : Nat} {x : Int} {dt : Nat} (hd : decode cc pc = .ok (.tableswitch dflt lo hi offs, len)) (ht : (pc : Int) + dflt = (dt : Int))
    (hin : ∀ j : Nat, lo + j = x → x ≤ hi → ∃ (off : Int) (tgt : Nat), offs[j]? = some off ∧ (pc : Int) + off = (tgt : Int) ∧ V κ nL M tgt lv st K) (hout : x < lo ∨ hi < x → V κ nL M dt lv st K) : V κ nL M pc lv (.inl x :: st) K := by
  refine ⟨?_, trivial⟩
  intro oM oL oS H locs ls hH hS hl
  obtain ⟨hx, oS⟩ := oS
  have hx : inR x := hx
  by_cases h : x < lo ∨ hi < x
  · exact lv_tableOut C.1 C.2.1 hd (by rw [oi_toInt hx]; exact h) ht ((hout h).1 oM oL oS H locs ls hH hS hl)
  · obtain ⟨off, tgt, h1, h2, h3⟩ := hin (x - lo).toNat (by omega) (by omega)
    exact lv_tableIn C.1 C.2.1 hd (by rw [oi_toInt hx]; omega) (by rw [oi_toInt hx]; omega) (by rw [oi_toInt hx]; exact h1) h2 (h3.1 oM oL oS H locs ls hH hS hl)
theorem ent_obj {ad : AD} {cs : CS} {r : Nat} {i : Int} {f : Int → Int} (h : kd r < 20) : ent ad cs r i f = .inr (kd r, (List.range (sz r)).map (fvl ad r i f)) := by
  unfold ent
  rw [if_neg (by omega), if_neg (by omega), if_neg (by omega)]
theorem v_get (C : Cx κ own cc nL ret rm dom) {r : Nat} {i : Int} {idx j ci : Nat} {w : PV} (hd : decode cc pc = .ok (.getfield idx, 3)) (hf : FL own idx ci j) (hk : kd r = ci) (hci : ci < 20) (hs : j < sz r) (hw : gv M r i j = w)
    (k : V κ nL M (pc + 3) lv (w :: st) K) : V κ nL M pc lv (.inr (r, i) :: st) K := by
  refine ⟨?_, trivial⟩
  intro oM oL oS H locs ls hH hS hl
  obtain ⟨hv, oS⟩ := oS
  subst hw
  have ow : okV κ.2.2.2.2.2 (gv M r i j) := by
    unfold gv
    split
    · rename_i q hq
      exact rf_ok (Cx_dm C) hv hq
    · exact oM _ _ _
  have h := k.1 oM oL ⟨ow, oS⟩ H locs ls hH hS hl
  have hat := hH r i hv.1 hv.2.1 hv.2.2
  rw [ent_obj (by omega)] at hat
  have hP : va_P κ.2.2.1 classes [(κ.2.2.2.1 r i, .inr (ci, (List.range (sz r)).map (fvl κ.2.2.2.1 r i (M r i))))] H := by
    intro k0 q hq
    cases k0 with
    | zero =>
      simp at hq
      subst hq
      rw [← hk]
      exact hat
    | succ n => simp at hq
  have hval : ((List.range (sz r)).map (fvl κ.2.2.2.1 r i (M r i)))[j]? = some (emb κ.2.2.2.1 (gv M r i j)) := by
    rw [List.getElem?_map, List.getElem?_range hs]
    cases hrf : rf r i j <;> simp [fvl, gv, hrf, emb]
  obtain ⟨Cn, T, N, h1, h2, h3, h4⟩ := hf
  rcases h4 with h4 | ⟨host, h4⟩
  · exact va_get C.1 C.2.1 C.2.2.2.2.1 h3 C.2.2.2.1 C.2.2.2.2.2.2.1 hP 0 rfl h1 j h2 (C.2.2.2.2.1 _ h4) (fun _ h9 => h9) hval hd h
  · exact va_getN C.1 C.2.1 C.2.2.2.2.1 h3 C.2.2.2.1 C.2.2.2.2.2.2.1 hP 0 rfl h1 j h2 (va_Nw.use rfl (C.2.2.2.2.2.1 _ h4)) (fun _ h9 => h9) hval hd h
/-- a cell is written anew: the heap holds the new memory -/
theorem HI_put {D : va_G} {ad : AD} {cs : CS} {dom : Nat → Bool} {M M' : Mem} {H H1 : Heap} {r : Nat} {i : Int} (hI : Inj ad dom) (hv : dom r = true ∧ 0 ≤ i ∧ i < cn r) (h : HI D ad cs dom M H) (hM : ∀ r' i', ¬ (r' = r ∧ i' = i) → M' r' i' = M r' i')
    (hn : va_at D classes (ad r i, ent ad cs r i (M' r i)) H1) (ho : ∀ q, q ≠ ad r i → H1[q]? = H[q]?) : HI D ad cs dom M' H1 := by
  intro r' i' h1 h2 h3
  by_cases e : r' = r ∧ i' = i
  · obtain ⟨e1, e2⟩ := e
    subst e1; subst e2
    exact hn
  · rw [hM r' i' e]
    refine (h r' i' h1 h2 h3).kept (ho _ ?_)
    intro q
    exact e (hI r' i' r i h1 h2 h3 hv.1 hv.2.1 hv.2.2 q)
theorem fvl_set {ad : AD} {r : Nat} {i : Int} {M : Mem} {j n : Nat} {x : Int} (hr : rf r i j = none) (hj : j < n) : (List.range n).map (fvl ad r i (up3 M r i j x r i)) = ((List.range n).map (fvl ad r i (M r i))).set j (.int (Int32.ofInt x)) := by
  apply List.ext_getElem?
  intro a
  rw [List.getElem?_set]
  by_cases h : j = a
  · subst h
    rw [if_pos rfl, if_pos (by simpa using hj), List.getElem?_map, List.getElem?_range hj]
    simp [fvl, hr, up3]
  · rw [if_neg h, List.getElem?_map, List.getElem?_map]
    by_cases ha : a < n
    · rw [List.getElem?_range ha]
      have h' : ¬ ((a : Int) = (j : Int)) := by omega
      simp [fvl, up3, h']
    · have e : (List.range n)[a]? = none := List.getElem?_eq_none (by simpa using Nat.le_of_not_lt ha)
      rw [e]
      rfl
theorem frA_in {ad : AD} {dom : Nat → Bool} {r : Nat} {i : Int} (hv : dom r = true ∧ 0 ≤ i ∧ i < cn r) : frA ad dom (ad r i) := ⟨r, i, hv.1, hv.2.1, hv.2.2, rfl⟩
theorem v_put (C : Cx κ own cc nL ret rm dom) {r : Nat} {i x : Int} {idx j ci : Nat} {ty : FieldType} (hd : decode cc pc = .ok (.putfield idx, 3)) (hf : PL own idx ci j ty) (hk : kd r = ci) (hci : ci < 20) (hs : j < sz r) (hr : rf r i j = none)
    (hn : narrow ty (.int (Int32.ofInt x)) = .int (Int32.ofInt x)) (hfit : fits ty (.int (Int32.ofInt x)) = true)
    (k : V κ nL (up3 M r i j x) (pc + 3) lv st K) : V κ nL M pc lv (.inl x :: .inr (r, i) :: st) K := by
  refine ⟨?_, trivial⟩
  intro oM oL oS H locs ls hH hS hl
  obtain ⟨hx, hv, oS⟩ := oS
  have hat := hH r i hv.1 hv.2.1 hv.2.2
  rw [ent_obj (by omega)] at hat
  obtain ⟨Cn, T, N, h1, h2, h3, h4, hfin, hpd, ty0, hty, hnm⟩ := hf
  obtain ⟨rr, h1', cell, q1, q2, q3, q4⟩ := hat
  dsimp only at h1' q1 q2 q3 q4
  rw [hk] at h1' q2 q4
  have hr' : rr = (Cn, T, N) := Option.some.inj (h1'.symm.trans h1)
  subst hr'
  have hK := C.2.2.2.2.2.2.1
  have hap := va_apart (own := own) C.2.2.2.2.1 h3 ty0 hty hnm hK h1
  obtain ⟨hSl, hfc, kC, hkC, hkind⟩ := hK.1 ci _ h1
  obtain ⟨cf, kf, fi, f, hi, hsl⟩ := hSl j h2
  have hlay := C.2.2.2.2.1 _ (h3 _ (u_in_lay h2))
  unfold u_lay at hlay
  rw [if_neg (by rw [hfin]; decide)] at hlay
  have hst := (u_facts hfc hkC (u_lays C.2.2.2.2.1 h3 h2) hi).1
  have h6 := u_store hfc hkC hkind hlay hi hpd hn hfit
  have hmid : ∀ H' : Heap, H'[κ.2.2.2.1 r i]? = some (cell.setSlot f.slot (.int (Int32.ofInt x))) → H'.size = H.size → (∀ q, q ≠ κ.2.2.2.1 r i → H'[q]? = H[q]?) →
      HI κ.2.2.1 κ.2.2.2.1 κ.2.2.2.2.1 κ.2.2.2.2.2 (up3 M r i j x) H' ∧ ∀ lc : Loc, lc.base = κ.2.2.2.1 r i → va_S (frA κ.2.2.2.1 κ.2.2.2.2.2) κ.1.2.2.2.2.heap H' (locs ++ [lc]) := by
    intro H' e1 e2 e3
    refine ⟨HI_put C.2.2.2.2.2.2.2.1 hv hH ?_ ?_ e3, fun lc hlc => ⟨by rw [e2]; exact hS.1, fun q hq hn => ?_, fun l9 hl9 => ?_⟩⟩
    · intro r' i' hne
      funext j'
      unfold up3
      rw [if_neg (fun h => hne ⟨h.1, h.2.1⟩)]
    · rw [ent_obj (r := r) (show kd r < 20 by rw [hk]; exact hci), fvl_set hr hs]
      refine ⟨(Cn, T, N), by rw [hk]; exact h1, ?_⟩
      dsimp only
      rw [hk]
      rw [hsl] at e1
      exact t_OB.to (V := updV (vp_V ((List.range (sz r)).map (fvl κ.2.2.2.1 r i (M r i)))) j (.int (Int32.ofInt x))) ⟨_, e1, q2, q3, t_set q4 hap h2 _⟩ (fun j' _ => vp_updV_set (by simpa using hs) _ j')
    · rw [e3 q (fun e => hn (by rw [e]; exact frA_in hv))]
      exact hS.2.1 q hq hn
    · rcases List.mem_append.mp hl9 with h' | h'
      · exact hS.2.2 l9 h'
      · rw [List.mem_singleton.mp h', hlc]
        exact frA_in hv
  rcases h4 with h4 | ⟨host, h4⟩
  · refine W.putK C.1 C.2.1 (f := f) ⟨C.2.2.2.1, C.2.2.2.2.1 _ h4, ⟨_, _, _, hi⟩, hst⟩ (by rw [q2]; exact h6) q1 q3 (by rw [hsl]; exact k2_hasslot (q4 j h2)) rfl rfl hd fun H' e1 e2 e3 => ?_
    have hh := hmid H' e1 e2 e3
    exact k.1 (okM_upd oM hx) oL oS H' _ ls hh.1 (hh.2 ⟨_, _⟩ rfl) hl
  · refine va_WputK C.1 C.2.1 (f := f) C.2.2.2.1 (va_Nw.use rfl (C.2.2.2.2.2.1 _ h4)) hi hst (by rw [q2]; exact h6) q1 q3 (by rw [hsl]; exact k2_hasslot (q4 j h2)) rfl rfl hd fun H' e1 e2 e3 => ?_
    have hh := hmid H' e1 e2 e3
    exact k.1 (okM_upd oM hx) oL oS H' _ ls hh.1 (hh.2 ⟨_, _⟩ rfl) hl
theorem ent_int {ad : AD} {cs : CS} {r : Nat} {i : Int} {f : Int → Int} (h : kd r = 20) : ent ad cs r i f = .inl (cs.1, sz r, .inl (fun j => Int32.ofInt (f j))) := by
  unfold ent
  rw [if_pos h]
theorem ent_chr {ad : AD} {cs : CS} {r : Nat} {i : Int} {f : Int → Int} (h : kd r = 21) : ent ad cs r i f = .inl (cs.2.1, sz r, .inl (fun j => Int32.ofInt (f j))) := by
  unfold ent
  rw [if_neg (by omega), if_pos h]
theorem ent_pic {ad : AD} {cs : CS} {r : Nat} {i : Int} {f : Int → Int} (h : kd r = 22) : ent ad cs r i f = .inl (cs.2.2, sz r, .inr (.inr (.inr (.inr (fun j => some (ad 11 (7 * i + j))))))) := by
  unfold ent
  rw [if_neg (by omega), if_neg (by omega), if_pos h]
theorem P_one {D : va_G} {a : Nat} {e : va_E} {H : Heap} (h : va_at D classes (a, e) H) : va_P D classes [(a, e)] H := by
  intro k0 q hq
  cases k0 with
  | zero =>
    simp at hq
    subst hq
    exact h
  | succ n => simp at hq
theorem v_iald (C : Cx κ own cc nL ret rm dom) {r : Nat} {i x : Int} (hd : decode cc pc = .ok (.iaload, 1)) (hk : kd r = 20) (h0 : 0 ≤ x) (h1 : x < sz r) (k : V κ nL M (pc + 1) lv (.inl (M r i x) :: st) K) : V κ nL M pc lv (.inl x :: .inr (r, i) :: st) K := by
  refine ⟨?_, trivial⟩
  intro oM oL oS H locs ls hH hS hl
  obtain ⟨hx, hv, oS⟩ := oS
  have h := k.1 oM oL ⟨oM _ _ _, oS⟩ H locs ls hH hS hl
  have hat := hH r i hv.1 hv.2.1 hv.2.2
  rw [ent_int hk] at hat
  refine va_iald C.1 C.2.1 C.2.2.2.2.2.2.1 (P_one hat) 0 0 rfl rfl (oi_in hx h0 h1) hd ?_
  rw [oi_clamp hx, oi_nat h0]
  exact h
theorem v_cald (C : Cx κ own cc nL ret rm dom) {r : Nat} {i x : Int} (hd : decode cc pc = .ok (.caload, 1)) (hk : kd r = 21) (h0 : 0 ≤ x) (h1 : x < sz r) (k : V κ nL M (pc + 1) lv (.inl (M r i x) :: st) K) : V κ nL M pc lv (.inl x :: .inr (r, i) :: st) K := by
  refine ⟨?_, trivial⟩
  intro oM oL oS H locs ls hH hS hl
  obtain ⟨hx, hv, oS⟩ := oS
  have h := k.1 oM oL ⟨oM _ _ _, oS⟩ H locs ls hH hS hl
  have hat := hH r i hv.1 hv.2.1 hv.2.2
  rw [ent_chr hk] at hat
  refine va_cald C.1 C.2.1 C.2.2.2.2.2.2.1 (P_one hat) 0 1 rfl rfl (oi_in hx h0 h1) hd ?_
  rw [oi_clamp hx, oi_nat h0]
  exact h
theorem v_aald (C : Cx κ own cc nL ret rm dom) {i x : Int} (hd : decode cc pc = .ok (.aaload, 1)) (h0 : 0 ≤ x) (h1 : x < 7) (k : V κ nL M (pc + 1) lv (.inr (11, 7 * i + x) :: st) K) : V κ nL M pc lv (.inl x :: .inr (10, i) :: st) K := by
  refine ⟨?_, trivial⟩
  intro oM oL oS H locs ls hH hS hl
  obtain ⟨hx, hv, oS⟩ := oS
  have hv1 : κ.2.2.2.2.2 10 = true := hv.1
  have hv2 : 0 ≤ i := hv.2.1
  have hv3 : i < 2 := hv.2.2
  have hv' : okV κ.2.2.2.2.2 (.inr (11, 7 * i + x)) := by
    refine ⟨?_, by show 0 ≤ 7 * i + x; omega, by show 7 * i + x < 14; omega⟩
    rcases Cx_dm C with e | e <;> rw [e] at hv1 ⊢ <;> simp_all [Nat.blt, Nat.ble]
  have h := k.1 oM oL ⟨hv', oS⟩ H locs ls hH hS hl
  have hat := hH 10 i hv.1 hv.2.1 hv.2.2
  rw [ent_pic rfl] at hat
  refine va_aldq C.1 C.2.1 C.2.2.2.2.2.2.1 (P_one hat) 0 2 rfl rfl (oi_in (n := sz 10) hx h0 h1) hd ?_
  rw [oi_clamp hx, oi_nat h0]
  exact h
theorem HI_arr {D : va_G} {ad : AD} {cs : CS} {dom : Nat → Bool} {M : Mem} {H H1 : Heap} {r : Nat} {i x v : Int} {cA : ClassId} (hI : Inj ad dom) (hv : dom r = true ∧ 0 ≤ i ∧ i < cn r) (h : HI D ad cs dom M H) (h0 : 0 ≤ x)
    (he : ∀ f, ent ad cs r i f = .inl (cA, sz r, .inl (fun j => Int32.ofInt (f j)))) (hn : H1[ad r i]? = some ((vp_cell cA (sz r, .inl (fun j => Int32.ofInt (M r i j)))).setSlot x.toNat (.int (Int32.ofInt v)))) (ho : ∀ q, q ≠ ad r i → H1[q]? = H[q]?) : HI D ad cs dom (up3 M r i x v) H1 := by
  refine HI_put hI hv h ?_ ?_ ho
  · intro r' i' hne
    funext j'
    unfold up3
    rw [if_neg (fun h => hne ⟨h.1, h.2.1⟩)]
  · rw [he]
    show H1[ad r i]? = some (vp_cell _ _)
    rw [hn, vp_cell_i, vp_cell_i, arrV_store]
    congr 2
    funext q
    by_cases hq : q = x.toNat
    · subst hq
      simp [updV, up3, oi_nat h0]
    · have : ¬ ((q : Int) = x) := by omega
      simp [updV, up3, hq, this]
theorem v_iast (C : Cx κ own cc nL ret rm dom) {r : Nat} {i x v : Int} (hd : decode cc pc = .ok (.iastore, 1)) (hk : kd r = 20) (h0 : 0 ≤ x) (h1 : x < sz r) (k : V κ nL (up3 M r i x v) (pc + 1) lv st K) : V κ nL M pc lv (.inl v :: .inl x :: .inr (r, i) :: st) K := by
  refine ⟨?_, trivial⟩
  intro oM oL oS H locs ls hH hS hl
  obtain ⟨hw, hx, hv, oS⟩ := oS
  have hat := hH r i hv.1 hv.2.1 hv.2.2
  rw [ent_int hk] at hat
  have hin := oi_in hx h0 h1
  refine W.iast C.1 C.2.1 (j := Int32.ofInt x) (x := Int32.ofInt v) hat ((C.2.2.2.2.2.2.1.2 0 _ rfl).1 (sz r) (fun j => .int (Int32.ofInt (M r i j)))) (fun q => by cases q) (by show ¬ (_ < 0 ∨ (arrV _ _ _).slots.size ≤ _); rw [arrV_size]; exact hin) rfl rfl hd fun H1 e z oq => ?_
  rw [oi_clamp hx] at e ⊢
  refine k.1 (okM_upd oM hw) oL oS H1 _ ls (HI_arr C.2.2.2.2.2.2.2.1 hv hH h0 (fun f => ent_int hk) e oq) ?_ hl
  refine ⟨by rw [z]; exact hS.1, fun q hq hn => ?_, fun l9 hl9 => ?_⟩
  · rw [oq q (fun e => hn (by rw [e]; exact frA_in hv))]
    exact hS.2.1 q hq hn
  · rcases List.mem_append.mp hl9 with h' | h'
    · exact hS.2.2 l9 h'
    · rw [List.mem_singleton.mp h']
      exact frA_in hv
theorem v_cast (C : Cx κ own cc nL ret rm dom) {r : Nat} {i x v : Int} (hd : decode cc pc = .ok (.castore, 1)) (hk : kd r = 21) (h0 : 0 ≤ x) (h1 : x < sz r) (hv0 : 0 ≤ v) (hv1 : v < 65536) (k : V κ nL (up3 M r i x v) (pc + 1) lv st K) : V κ nL M pc lv (.inl v :: .inl x :: .inr (r, i) :: st) K := by
  refine ⟨?_, trivial⟩
  intro oM oL oS H locs ls hH hS hl
  obtain ⟨hw, hx, hv, oS⟩ := oS
  have hat := hH r i hv.1 hv.2.1 hv.2.2
  rw [ent_chr hk] at hat
  have hin := oi_in hx h0 h1
  refine W.cast C.1 C.2.1 (j := Int32.ofInt x) (x := Int32.ofInt v) hat ((C.2.2.2.2.2.2.1.2 1 _ rfl).1 (sz r) (fun j => .int (Int32.ofInt (M r i j)))) (fun q => by cases q) (by show ¬ (_ < 0 ∨ (arrV _ _ _).slots.size ≤ _); rw [arrV_size]; exact hin) rfl rfl hd fun H1 e z oq => ?_
  have hnar : narrow .char (.int (Int32.ofInt v)) = .int (Int32.ofInt v) := by
    have e1 : Int32.ofInt v = nI v.toNat := by
      show Int32.ofInt v = Int32.ofNat v.toNat
      rw [← Int32.ofInt_eq_ofNat, oi_nat hv0]
    rw [e1]
    exact (pk_charN (by omega)).1
  rw [oi_clamp hx, hnar] at e
  rw [oi_clamp hx]
  refine k.1 (okM_upd oM hw) oL oS H1 _ ls (HI_arr C.2.2.2.2.2.2.2.1 hv hH h0 (fun f => ent_chr hk) e oq) ?_ hl
  refine ⟨by rw [z]; exact hS.1, fun q hq hn => ?_, fun l9 hl9 => ?_⟩
  · rw [oq q (fun e => hn (by rw [e]; exact frA_in hv))]
    exact hS.2.1 q hq hn
  · rcases List.mem_append.mp hl9 with h' | h'
    · exact hS.2.2 l9 h'
    · rw [List.mem_singleton.mp h']
      exact frA_in hv
theorem v_i2c (C : Cx κ own cc nL ret rm dom) {x : Int} (hd : decode cc pc = .ok (.i2c, 1)) (h0 : 0 ≤ x) (h1 : x < 65536) (k : V κ nL M (pc + 1) lv (.inl x :: st) K) : V κ nL M pc lv (.inl x :: st) K := by
  refine ⟨?_, trivial⟩
  intro oM oL oS H locs ls hH hS hl
  refine lv_i2c C.1 C.2.1 hd (v := Int32.ofInt x) ?_ (k.1 oM oL oS H locs ls hH hS hl)
  have e1 : Int32.ofInt x = nI x.toNat := by
    show Int32.ofInt x = Int32.ofNat x.toNat
    rw [← Int32.ofInt_eq_ofNat, oi_nat h0]
  rw [pk_char, e1, pk_tn (by omega), Nat.mod_eq_of_lt (by omega)]
theorem v_iret (C : Cx κ own cc nL (some .int) rm dom) {x : Int} (hd : decode cc pc = .ok (.ireturn, 1)) (k : K (some x) M) : V κ nL M pc lv [.inl x] K := by
  refine ⟨?_, trivial⟩
  intro oM oL oS H locs ls hH hS hl
  exact W.iret C.1 C.2.1 C.2.2.2.2.2.2.2.2.2.1 (fun t ht hW => ⟨⟨some x, M, rfl, fun y hy => by cases hy; exact oS.1, oM, k, by rw [ht]; exact hH⟩, hS.F ht⟩) hS.2.2 hd C.2.2.2.2.2.2.2.2.1
theorem v_zret (C : Cx κ own cc nL (some .boolean) rm dom) {x : Int} (hd : decode cc pc = .ok (.ireturn, 1)) (hx : x = 0 ∨ x = 1) (k : K (some x) M) : V κ nL M pc lv [.inl x] K := by
  refine ⟨?_, trivial⟩
  intro oM oL oS H locs ls hH hS hl
  exact W.zret C.1 C.2.1 C.2.2.2.2.2.2.2.2.2.1 (by rcases hx with e | e <;> subst e <;> rfl) (fun t ht hW => ⟨⟨some x, M, rfl, fun y hy => by cases hy; exact oS.1, oM, k, by rw [ht]; exact hH⟩, hS.F ht⟩) hS.2.2 hd C.2.2.2.2.2.2.2.2.1
theorem v_vret (C : Cx κ own cc nL none rm dom) (hd : decode cc pc = .ok (.return_, 1)) (k : K none M) : V κ nL M pc lv [] K := by
  refine ⟨?_, trivial⟩
  intro oM oL oS H locs ls hH hS hl
  exact W.vret C.1 C.2.1 C.2.2.2.2.2.2.2.2.2.1 (fun t ht hW => ⟨⟨none, M, rfl, fun y hy => (by cases hy), oM, k, by rw [ht]; exact hH⟩, hS.F ht⟩) hS.2.2 hd C.2.2.2.2.2.2.2.2.1
end VR2
end
section
/-! ===== contracts, calls ===== -/
def PcX (D : va_G) (ad : AD) (cs : CS) (dom : Nat → Bool) (as : List PV) (M : Mem) : Array Value → State → Prop :=
  va_Pc (as.map (emb ad)) (fun U => va_K D classes (tysX cs) U ∧ NWX U ∧ HI D ad cs dom M U.heap)
/-- a method's contract: from every memory where 'sp arguments memory K' holds it returns, and K holds of its answer and memory then -/
def Ct {α : Type} (y : MethodName) (b : ByteArray) (mL : Nat) (rt : Option FieldType) (rm : Room) (dom : Nat → Bool) (arg : α → List PV) (sp : α → Mem → Kont → Prop) : Prop :=
  ∀ (l : Launch) (D : va_G) (ad : AD) (cs : CS) (a : α) (M : Mem) (K : Kont), Inj ad dom → okM M → okS dom (arg a) → sp a M K →
    Met l y (Cond.code y b mL rt :: tb) rm (PcX D ad cs dom (arg a) M) (QcX D ad cs dom K) 0 0 (frA ad dom)
theorem PcX_blind {D : va_G} {ad : AD} {cs : CS} {dom : Nat → Bool} {as : List PV} {M : Mem} : FrameBlind (PcX D ad cs dom as M) := by
  intro a U g mk h
  obtain ⟨e, h1, h2, h3⟩ := h
  exact ⟨e, va_K.moved (u := U) (U := U.calling g mk a) (Vm.Alike.refl U.vm) h1, NWX.same (u := U) (U := U.calling g mk a) rfl h2, h3⟩
def pushR : Option Int → List PV → List PV
  | some x, st => .inl x :: st
  | none, st => st
theorem lv_args_mem (ad : AD) : ∀ (as : List PV) (i k : Nat) (v : PV), as[k]? = some v → (i + k, emb ad v) ∈ lv_args i (as.map (emb ad))
  | [], i, k, v, h => by simp at h
  | a :: t, i, 0, v, h => by
    simp at h
    subst h
    exact List.mem_cons_self
  | a :: t, i, k + 1, v, h => by
    have := lv_args_mem ad t (i + 1) k v (by simpa using h)
    show (i + (k + 1), emb ad v) ∈ (i, emb ad a) :: lv_args (if (emb ad a).category = 2 then i + 2 else i + 1) (t.map (emb ad))
    rw [if_neg (by rw [emb_cat]; decide)]
    refine List.mem_cons_of_mem _ ?_
    have e : i + (k + 1) = i + 1 + k := by omega
    rw [e]
    exact this
theorem lg_sl_len (ad : AD) (as : List PV) : (lg_sl (as.map (emb ad))).length = as.length := by
  induction as with
  | nil => rfl
  | cons a t ih =>
    simp only [lg_sl, List.map_cons, List.flatMap_cons, List.length_append] at ih ⊢
    rw [ih, if_neg (by rw [emb_cat]; decide)]
    simp
    omega
def lvE (n : Nat) (as : List PV) : List (Option PV) := as.map some ++ List.replicate (n - as.length) none
theorem lvE_get {n : Nat} {as : List PV} {k : Nat} {v : PV} (h : (lvE n as)[k]? = some (some v)) : as[k]? = some v := by
  unfold lvE at h
  by_cases hk : k < as.length
  · rw [List.getElem?_append_left (by simpa using hk), List.getElem?_map] at h
    cases e : as[k]? with
    | none => rw [e] at h; cases h
    | some w => rw [e] at h; simpa using h
  · rw [List.getElem?_append_right (by simpa using Nat.le_of_not_lt hk), List.getElem?_replicate] at h
    split at h <;> simp at h
theorem okL_E {dom : Nat → Bool} {n : Nat} {as : List PV} (h : okS dom as) : okL dom (lvE n as) := by
  unfold lvE
  induction as generalizing n with
  | nil =>
    simp only [List.map_nil, List.nil_append]
    generalize n - ([] : List PV).length = j
    induction j with
    | zero => exact trivial
    | succ j ih => exact ih
  | cons a t ih =>
    have := ih (n := n - 1) h.2
    refine ⟨h.1, ?_⟩
    have e : n - (a :: t).length = n - 1 - t.length := by simp; omega
    rw [e]
    exact this
theorem ct_of {α : Type} {y : MethodName} {b : ByteArray} {mL : Nat} {rt : Option FieldType} {rm : Room} {dom : Nat → Bool} {arg : α → List PV} {sp : α → Mem → Kont → Prop} (hy : plainName y.cls = true) (hdm : Dm dom) (hlen : ∀ a, (arg a).length ≤ mL)
    (h : ∀ (κ : Kx) (a : α) (M : Mem) (K : Kont), Cx κ y.cls b mL rt rm dom → okM M → sp a M K → V κ mL M 0 (lvE mL (arg a)) [] K) : Ct y b mL rt rm dom arg sp := by
  intro l D ad cs a M K hI oM oS hsp
  refine Met.ofW (cc := b) (maxL := mL) (ret := rt) hy rfl ?_
  intro p e s m args below meth c s₁ B hml hv
  obtain ⟨rfl, hK, hN, hH⟩ := hv
  have hts : ∀ w ∈ tb, w.before ((arg a).map (emb ad)).toArray s = true := fun w hw => atoms_spec (ws := Cond.code y b mL rt :: tb) B.pre w (List.mem_cons_of_mem _ hw)
  have hown : s.vm.findClass y.cls = some m.cls := findClass_of_methodNamed B.named
  have hl := lv_entry ((arg a).map (emb ad)) (n := mL) (by rw [lg_sl_len]; exact hlen a)
  rw [lg_entry_eq]
  generalize (lg_sl ((arg a).map (emb ad)) ++ List.replicate (mL - (lg_sl ((arg a).map (emb ad))).length) Slot.unset).toArray = ls at hl ⊢
  have hl2 : lv_has ls mL (prs ad (lvE mL (arg a))) := by
    refine ⟨hl.1, hl.2.1, fun q hq => hl.2.2 q ?_⟩
    obtain ⟨v, hv, he⟩ := prs_mem.mp hq
    have := lv_args_mem ad (arg a) 0 q.1 v (lvE_get hv)
    rw [Nat.zero_add] at this
    obtain ⟨q1, q2⟩ := q
    dsimp only at he this ⊢
    rw [he]
    exact this
  exact (h ((p, l, e, (headSpec (Cond.code y b mL rt :: tb) rm).room, s), (m, ((arg a).map (emb ad)).toArray, below, meth, c), (D, ad, cs, dom)) a M K ⟨B.exec, B.bytes, hml, hown, hts, hN, hK, hI, B.notSynchronized, B.returns, rfl, rfl, hdm⟩ oM hsp).1 oM (okL_E oS) trivial s.heap [] ls hH va_S.rf hl2
/-- the words of a call of an instance method -/
def IV (own : String) (idx : Nat) (y : MethodName) (b : ByteArray) (mL : Nat) (rt : Option FieldType) (n : Nat) : Prop :=
  Cond.methodLink own idx y ∈ tb ∧ Cond.instanceMethod y ∈ tb ∧ Cond.selects y.cls y y ∈ tb ∧ Cond.initialized y.cls ∈ tb ∧ Cond.code y b mL rt ∈ tb ∧
  (y.cls ≠ "java/lang/invoke/MethodHandle" ∧ y.cls ≠ "java/lang/invoke/VarHandle" ∧ (parseMethodDescriptor y.desc).map (fun d => d.parameters.length) = some n)
def IS (own : String) (idx : Nat) (y : MethodName) (b : ByteArray) (mL : Nat) (rt : Option FieldType) (n : Nat) : Prop :=
  Cond.methodLink own idx y ∈ tb ∧ Cond.static y ∈ tb ∧ Cond.initialized y.cls ∈ tb ∧ Cond.code y b mL rt ∈ tb ∧
  (y.cls ≠ "java/lang/invoke/MethodHandle" ∧ y.cls ≠ "java/lang/invoke/VarHandle" ∧ (parseMethodDescriptor y.desc).map (fun d => d.parameters.length) = some n)
def RmOk (rm' rm : Room) (mL : Nat) : Prop := rm'.frames + 1 ≤ rm.frames ∧ 8 + (mL + 11) + rm'.locals ≤ rm.locals ∧ rm'.cells = 0 ∧ rm'.slots = 0
theorem rest_room {ad : AD} (st : List PV) (h : st.length ≤ 8) : ((st.map (emb ad)).map fun v => v.category).sum ≤ 8 := by
  have : ∀ l : List PV, ((l.map (emb ad)).map fun v => v.category).sum = l.length := by
    intro l
    induction l with
    | nil => rfl
    | cons a t ih => simp [emb_cat] at ih ⊢; omega
  rw [this]
  exact h
section VC
variable {κ : Kx} {own : String} {cc : ByteArray} {nL : Nat} {ret : Option FieldType} {rm : Room} {dom : Nat → Bool} {M : Mem} {pc : Nat} {lv : List (Option PV)} {st : List PV} {K : Kont}
theorem v_ran {H : Heap} {locs : List Loc} {ls : Array Slot} {st0 : List Value} {aa : Array Value} (oL : okL κ.2.2.2.2.2 lv) (oS : okS κ.2.2.2.2.2 st) (hS : va_S (frA κ.2.2.2.1 κ.2.2.2.2.2) κ.1.2.2.2.2.heap H locs) (hl : lv_has ls nL (prs κ.2.2.2.1 lv))
    {K1 : Kont} (kk : ∀ (x : Option Int) (M' : Mem), okM M' → (∀ z, x = some z → inR z) → K1 x M' → V κ nL M' (pc + 3) lv (pushR x st) K)
    (hr : va_Run κ.1.1 κ.1.2.1 κ.1.2.2.1 κ.1.2.2.2.1 κ.1.2.2.2.2 κ.2.1.1 κ.2.1.2.1 κ.2.1.2.2.1 κ.2.1.2.2.2.1 κ.2.1.2.2.2.2 H locs 0 0 0 0 (F0 κ.2.1.1 pc ls st0) (st.map (emb κ.2.2.2.1))
      (QcX κ.2.2.1 κ.2.2.2.1 κ.2.2.2.2.1 κ.2.2.2.2.2 K1 aa) (frA κ.2.2.2.1 κ.2.2.2.2.2)) :
    W κ.1.1 κ.1.2.1 κ.1.2.2.1 κ.1.2.2.2.1 κ.1.2.2.2.2 κ.2.1.1 κ.2.1.2.1 κ.2.1.2.2.1 κ.2.1.2.2.2.1 κ.2.1.2.2.2.2 H locs 0 0
      (MQ κ.2.1.2.2.1 (QcX κ.2.2.1 κ.2.2.2.1 κ.2.2.2.2.1 κ.2.2.2.2.2 K) κ.2.1.2.1 κ.1.2.2.2.2 0 0 (frA κ.2.2.2.1 κ.2.2.2.2.2)) (F0 κ.2.1.1 pc ls st0) := by
  intro T hT X
  obtain ⟨v, st₀, t, T', L, h0, X', hL, e1, e2, ⟨⟨r, M', hv, hin, oM', hk, hH'⟩, hz, hkp⟩, stp⟩ := hr T hT X
  rw [h0] at hz hkp
  have hS' : va_S (frA κ.2.2.2.1 κ.2.2.2.2.2) κ.1.2.2.2.2.heap T'.heap (locs ++ L) := by
    refine ⟨Nat.le_trans hS.1 (by rw [e1]; exact hz), fun q h1 h2 => ?_, fun q hq => ?_⟩
    · rw [e1, hkp q (Nat.lt_of_lt_of_le h1 hS.1) h2]
      exact hS.2.1 q h1 h2
    · rcases List.mem_append.mp hq with h | h
      · exact hS.2.2 q h
      · exact hL q h
  have oS' : okS κ.2.2.2.2.2 (pushR r st) := by
    cases r with
    | none => exact oS
    | some x => exact ⟨hin x rfl, oS⟩
  obtain ⟨t2, a1, b1⟩ := (kk r M' oM' hin hk).1 oM' oL oS' T'.heap (locs ++ L) ls (by rw [e1]; exact hH') hS' hl T' rfl X'
  refine ⟨t2, stp t2 ?_, b1⟩
  have ev : v = r.map fun x => .int (Int32.ofInt x) := by injection hv
  subst ev
  cases r with
  | none => exact a1
  | some x => exact a1
theorem v_invV {α : Type} {y : MethodName} {b : ByteArray} {mL : Nat} {rt : Option FieldType} {rm' : Room} {arg : α → List PV} {sp : α → Mem → Kont → Prop} (C : Cx κ own cc nL ret rm dom) (hM : Ct y b mL rt rm' dom arg sp) {idx n : Nat} (hd : decode cc pc = .ok (.invokevirtual idx, 3)) (hw : IV own idx y b mL rt n) (hR : RmOk rm' rm mL)
    (a : α) {r : Nat} {i : Int} {As : List PV} {ci : Nat} {T : u_T} {N : Nat} {st0 : List PV} (ha : arg a = .inr (r, i) :: As) (hn : As.length = n) (hk : kd r = ci) (hci : ci < 20) (hcl : classes[ci]? = some (y.cls, T, N)) (hst : st0 = As.reverse ++ .inr (r, i) :: st) (h8 : st.length ≤ 8)
    {K1 : Kont} (k : sp a M K1) (kk : ∀ (x : Option Int) (M' : Mem), okM M' → (∀ z, x = some z → inR z) → K1 x M' → V κ nL M' (pc + 3) lv (pushR x st) K) : V κ nL M pc lv st0 K := by
  refine ⟨?_, trivial⟩
  intro oM oL oS H locs ls hH hS hl
  subst hst
  obtain ⟨c1, c2, c3, c4, c5, c6, c7, c8, c9, c10, c11, c12, c13⟩ := id C
  have oAll : ∀ (l : List PV) (z : List PV), okS κ.2.2.2.2.2 (l ++ z) → okS κ.2.2.2.2.2 l ∧ okS κ.2.2.2.2.2 z := by
    intro l z
    induction l with
    | nil => intro h; exact ⟨trivial, h⟩
    | cons a t ih => intro h; exact ⟨⟨h.1, (ih h.2).1⟩, (ih h.2).2⟩
  have oRev : ∀ l : List PV, okS κ.2.2.2.2.2 l.reverse → okS κ.2.2.2.2.2 l := by
    have key : ∀ l : List PV, okS κ.2.2.2.2.2 l ↔ ∀ v ∈ l, okV κ.2.2.2.2.2 v := by
      intro l
      induction l with
      | nil => simp [okS]
      | cons a t ih => simp [okS, ih]
    intro l h
    rw [key] at h ⊢
    intro v hv
    exact h v (List.mem_reverse.mpr hv)
  obtain ⟨o1, o2, o3⟩ := oAll _ _ oS
  have oArg : okS κ.2.2.2.2.2 (arg a) := by rw [ha]; exact ⟨o2, oRev _ o1⟩
  have hMet := hM κ.1.2.1 κ.2.2.1 κ.2.2.2.1 κ.2.2.2.2.1 a M _ (by rw [← c12]; exact c8) oM (by rw [← c12]; exact oArg) k
  rw [← c12] at hMet
  refine v_ran (aa := (Value.ref (κ.2.2.2.1 r i) :: As.map (emb κ.2.2.2.1)).toArray) oL o3 hS hl kk ?_
  have hat := hH r i o2.1 o2.2.1 o2.2.2
  rw [ent_obj (by omega)] at hat
  obtain ⟨w1, w2, w3, w4, w5, w6⟩ := hw
  refine va_runV (bytes := b) (maxL := mL) (ret := rt) (C := y.cls) (As := As.map (emb κ.2.2.2.1)) (b := κ.2.2.2.1 r i) (rest := st.map (emb κ.2.2.2.1)) (n := n) ⟨c1, c2, c3, c4, c5⟩ hMet ?_ ⟨PcX_blind, ?_, ?_⟩ rfl (by rw [List.length_map]; exact hn) hl.1 ?_ (lv_room (rest_room st h8)) hd ⟨by omega, by omega⟩
  · rw [c11]
    refine cwV n c5 ?_ rfl hR.2.2.1 hR.2.2.2 ⟨rfl, w6⟩ ⟨hR.1, hR.2.1⟩
    intro w hw'
    rcases List.mem_append.mp hw' with h | h
    · have : w ∈ tb := by
        simp only [List.mem_cons, List.not_mem_nil, or_false] at h
        rcases h with h | h | h | h <;> subst h <;> assumption
      exact ⟨this, good_of_word (List.mem_filter.mp this).2⟩
    · exact good_tb (fun w h => h) w5 w h
  · obtain ⟨rr, h1', cell, q1, q2, q3, q4⟩ := hat
    dsimp only at h1' q1 q2 q3 q4
    rw [hk] at h1' q2
    exact ⟨cell, q1, by rw [q3]; rfl, by rw [q2]; exact (c7.1 ci _ hcl).2.1⟩
  · intro U hU hW
    refine ⟨?_, va_K.moved hW.alike c7, NWX.warm hW c6, by rw [hU]; exact hH⟩
    rw [ha]
    rfl
  · show ((As.reverse ++ .inr (r, i) :: st).map (emb κ.2.2.2.1)) = _
    simp [emb]
theorem v_invS {α : Type} {y : MethodName} {b : ByteArray} {mL : Nat} {rt : Option FieldType} {rm' : Room} {arg : α → List PV} {sp : α → Mem → Kont → Prop} (C : Cx κ own cc nL ret rm dom) (hM : Ct y b mL rt rm' dom arg sp) {idx n : Nat} (hd : decode cc pc = .ok (.invokestatic idx, 3)) (hw : IS own idx y b mL rt n) (hR : RmOk rm' rm mL)
    (a : α) {st0 : List PV} (hn : (arg a).length = n) (hst : st0 = (arg a).reverse ++ st) (h8 : st.length ≤ 8)
    {K1 : Kont} (k : sp a M K1) (kk : ∀ (x : Option Int) (M' : Mem), okM M' → (∀ z, x = some z → inR z) → K1 x M' → V κ nL M' (pc + 3) lv (pushR x st) K) : V κ nL M pc lv st0 K := by
  refine ⟨?_, trivial⟩
  intro oM oL oS H locs ls hH hS hl
  subst hst
  obtain ⟨c1, c2, c3, c4, c5, c6, c7, c8, c9, c10, c11, c12, c13⟩ := id C
  have key : ∀ l : List PV, okS κ.2.2.2.2.2 l ↔ ∀ v ∈ l, okV κ.2.2.2.2.2 v := by
    intro l
    induction l with
    | nil => simp [okS]
    | cons a t ih => simp [okS, ih]
  have oArg : okS κ.2.2.2.2.2 (arg a) := by
    rw [key] at oS ⊢
    exact fun v hv => oS v (List.mem_append_left _ (List.mem_reverse.mpr hv))
  have o3 : okS κ.2.2.2.2.2 st := by
    rw [key] at oS ⊢
    exact fun v hv => oS v (List.mem_append_right _ hv)
  have hMet := hM κ.1.2.1 κ.2.2.1 κ.2.2.2.1 κ.2.2.2.2.1 a M _ (by rw [← c12]; exact c8) oM (by rw [← c12]; exact oArg) k
  rw [← c12] at hMet
  refine v_ran (aa := ((arg a).map (emb κ.2.2.2.1)).toArray) oL o3 hS hl kk ?_
  obtain ⟨w1, w2, w4, w5, w6⟩ := hw
  refine va_runS (bytes := b) (maxL := mL) (ret := rt) (As := (arg a).map (emb κ.2.2.2.1)) (rest := st.map (emb κ.2.2.2.1)) (n := n) ⟨c1, c2, c3, c4, c5⟩ hMet ?_ ⟨PcX_blind, ?_⟩ rfl (by rw [List.length_map]; exact hn) hl.1 ?_ (lv_room (rest_room st h8)) hd ⟨by omega, by omega⟩
  · rw [c11]
    exact ⟨callB_of n c5 (good_tb (fun w h => h) w5) rfl hR.2.2.1 hR.2.2.2 (c5 _ w4) (c5 _ w1) w6 ⟨hR.1, hR.2.1⟩, c5 _ w2⟩
  · intro U hU hW
    exact ⟨rfl, va_K.moved hW.alike c7, NWX.warm hW c6, by rw [hU]; exact hH⟩
  · show (((arg a).reverse ++ st).map (emb κ.2.2.2.1)) = _
    simp
theorem v_nm {e : Int} (h : ∀ x : Int, x = e → V κ nL M pc lv (.inl x :: st) K) : V κ nL M pc lv (.inl e :: st) K := h e rfl
theorem v_nmM {e : Mem} (h : ∀ M' : Mem, M' = e → V κ nL M' pc lv st K) : V κ nL e pc lv st K := h e rfl
theorem v_push {x : Int} (h : V κ nL M pc lv (.inl x :: st) K) : V κ nL M pc lv (pushR (some x) st) K := h
theorem v_push0 (h : V κ nL M pc lv st K) : V κ nL M pc lv (pushR none st) K := h
/-- Math.min, Math.max -/
def IMin (own : String) (idx : Nat) : Prop := Cond.methodLink own idx Lib.Math.min.name ∈ tb ∧ Cond.static Lib.Math.min.name ∈ tb ∧ Cond.initialized "java/lang/Math" ∈ tb ∧ Cond.code Lib.Math.min.name Lib.Math.min.code 2 (some .int) ∈ tb
def IMax (own : String) (idx : Nat) : Prop := Cond.methodLink own idx Lib.Math.max.name ∈ tb ∧ Cond.static Lib.Math.max.name ∈ tb ∧ Cond.initialized "java/lang/Math" ∈ tb ∧ Cond.code Lib.Math.max.name Lib.Math.max.code 2 (some .int) ∈ tb
theorem v_min (C : Cx κ own cc nL ret rm dom) {idx : Nat} {x y : Int} (hd : decode cc pc = .ok (.invokestatic idx, 3)) (hw : IMin own idx) (h8 : st.length ≤ 8) (hR : 1 ≤ rm.frames ∧ 21 ≤ rm.locals) (k : V κ nL M (pc + 3) lv (.inl (min x y) :: st) K) : V κ nL M pc lv (.inl y :: .inl x :: st) K := by
  refine ⟨?_, trivial⟩
  intro oM oL oS H locs ls hH hS hl
  obtain ⟨hy, hx, oS⟩ := oS
  have hx : inR x := hx
  have hy : inR y := hy
  obtain ⟨c1, c2, c3, c4, c5, c6, c7, c8, c9, c10, c11, c12, c13⟩ := id C
  have hm : inR (min x y) := by omega
  have h := k.1 oM oL ⟨hm, oS⟩ H locs ls hH hS hl
  have hrr := rest_room (ad := κ.2.2.2.1) st h8
  refine va_mmin c1 c2 (by rw [c3]; exact hl.1.symm) c4 (c5 _ hw.1) (c5 _ hw.2.1) (c5 _ hw.2.2.1) (c5 _ hw.2.2.2) (by rw [c11]; exact hR.1) (by rw [c11]; have := hR.2; omega) (Nat.zero_le _) (Nat.zero_le _) hd ?_
  have e : (if Int32.ofInt y < Int32.ofInt x then Int32.ofInt y else Int32.ofInt x) = Int32.ofInt (min x y) := by
    by_cases hc : y < x
    · rw [if_pos ((oi_lt hy hx).mpr hc)]
      congr 1
      omega
    · rw [if_neg (fun z => hc ((oi_lt hy hx).mp z))]
      congr 1
      omega
  rw [e]
  exact h
theorem v_max (C : Cx κ own cc nL ret rm dom) {idx : Nat} {x y : Int} (hd : decode cc pc = .ok (.invokestatic idx, 3)) (hw : IMax own idx) (h8 : st.length ≤ 8) (hR : 1 ≤ rm.frames ∧ 21 ≤ rm.locals) (k : V κ nL M (pc + 3) lv (.inl (max x y) :: st) K) : V κ nL M pc lv (.inl y :: .inl x :: st) K := by
  refine ⟨?_, trivial⟩
  intro oM oL oS H locs ls hH hS hl
  obtain ⟨hy, hx, oS⟩ := oS
  have hx : inR x := hx
  have hy : inR y := hy
  obtain ⟨c1, c2, c3, c4, c5, c6, c7, c8, c9, c10, c11, c12, c13⟩ := id C
  have hm : inR (max x y) := by omega
  have h := k.1 oM oL ⟨hm, oS⟩ H locs ls hH hS hl
  have hrr := rest_room (ad := κ.2.2.2.1) st h8
  refine va_mmax c1 c2 (by rw [c3]; exact hl.1.symm) c4 (c5 _ hw.1) (c5 _ hw.2.1) (c5 _ hw.2.2.1) (c5 _ hw.2.2.2) (by rw [c11]; exact hR.1) (by rw [c11]; have := hR.2; omega) (Nat.zero_le _) (Nat.zero_le _) hd ?_
  have e : (if Int32.ofInt x < Int32.ofInt y then Int32.ofInt y else Int32.ofInt x) = Int32.ofInt (max x y) := by
    by_cases hc : x < y
    · rw [if_pos ((oi_lt hx hy).mpr hc)]
      congr 1
      omega
    · rw [if_neg (fun z => hc ((oi_lt hx hy).mp z))]
      congr 1
      omega
  rw [e]
  exact h
end VC
def rI (F : Int → Mem → Prop) : Kont := fun o M => match o with
  | some x => F x M
  | none => False
def rV (F : Mem → Prop) : Kont := fun o M => match o with
  | some _ => False
  | none => F M
theorem rI_out {F : Int → Mem → Prop} {o : Option Int} {M : Mem} (h : rI F o M) : ∃ x, o = some x ∧ F x M := by
  cases o with
  | none => exact h.elim
  | some x => exact ⟨x, rfl, h⟩
theorem rV_out {F : Mem → Prop} {o : Option Int} {M : Mem} (h : rV F o M) : o = none ∧ F M := by
  cases o with
  | none => exact ⟨rfl, h⟩
  | some x => exact h.elim
abbrev domC : Nat → Bool := fun r => Nat.blt r 24
abbrev domM : Nat → Bool := fun r => Nat.ble 30 r
theorem dmC : Dm domC := Or.inl rfl
theorem dmM : Dm domM := Or.inr rfl
end
section
theorem uwX0 : ∀ w ∈ u_ws RX0 TX0 2, w ∈ tb := by
  have h : ∀ k, k < 2 → u_lay RX0 TX0 k ∈ tb := by
    intro k hk
    have hk2 : k = 0 ∨ k = 1 := by omega
    rcases hk2 with rfl | rfl
    · exact (tb_mem (t_in1 (List.mem_of_getElem? (i := 214) (by decide +kernel))) (by decide +kernel))
    · exact (tb_mem (t_in1 (List.mem_of_getElem? (i := 216) (by decide +kernel))) (by decide +kernel))
  intro w hw
  obtain ⟨k, hk, e⟩ := List.mem_map.mp hw
  rw [← e]
  exact h k (List.mem_range.mp hk)
theorem uwX1 : ∀ w ∈ u_ws RX1 TX1 9, w ∈ tb := by
  have h : ∀ k, k < 9 → u_lay RX1 TX1 k ∈ tb := by
    intro k hk
    have hk2 : k = 0 ∨ k = 1 ∨ k = 2 ∨ k = 3 ∨ k = 4 ∨ k = 5 ∨ k = 6 ∨ k = 7 ∨ k = 8 := by omega
    rcases hk2 with rfl | rfl | rfl | rfl | rfl | rfl | rfl | rfl | rfl
    · exact (tb_mem (t_in1 (List.mem_of_getElem? (i := 144) (by decide +kernel))) (by decide +kernel))
    · exact (tb_mem (t_in1 (List.mem_of_getElem? (i := 146) (by decide +kernel))) (by decide +kernel))
    · exact (tb_mem (t_in1 (List.mem_of_getElem? (i := 148) (by decide +kernel))) (by decide +kernel))
    · exact (tb_mem (t_in1 (List.mem_of_getElem? (i := 150) (by decide +kernel))) (by decide +kernel))
    · exact (tb_mem (t_in1 (List.mem_of_getElem? (i := 152) (by decide +kernel))) (by decide +kernel))
    · exact (tb_mem (t_in1 (List.mem_of_getElem? (i := 154) (by decide +kernel))) (by decide +kernel))
    · exact (tb_mem (t_in1 (List.mem_of_getElem? (i := 156) (by decide +kernel))) (by decide +kernel))
    · exact (tb_mem (t_in1 (List.mem_of_getElem? (i := 158) (by decide +kernel))) (by decide +kernel))
    · exact (tb_mem (t_in1 (List.mem_of_getElem? (i := 160) (by decide +kernel))) (by decide +kernel))
  intro w hw
  obtain ⟨k, hk, e⟩ := List.mem_map.mp hw
  rw [← e]
  exact h k (List.mem_range.mp hk)
theorem uwX2 : ∀ w ∈ u_ws RX2 TX2 10, w ∈ tb := by
  have h : ∀ k, k < 10 → u_lay RX2 TX2 k ∈ tb := by
    intro k hk
    have hk2 : k = 0 ∨ k = 1 ∨ k = 2 ∨ k = 3 ∨ k = 4 ∨ k = 5 ∨ k = 6 ∨ k = 7 ∨ k = 8 ∨ k = 9 := by omega
    rcases hk2 with rfl | rfl | rfl | rfl | rfl | rfl | rfl | rfl | rfl | rfl
    · exact (tb_mem (t_in1 (List.mem_of_getElem? (i := 239) (by decide +kernel))) (by decide +kernel))
    · exact (tb_mem (t_in2 (List.mem_of_getElem? (i := 1) (by decide +kernel))) (by decide +kernel))
    · exact (tb_mem (t_in2 (List.mem_of_getElem? (i := 3) (by decide +kernel))) (by decide +kernel))
    · exact (tb_mem (t_in2 (List.mem_of_getElem? (i := 5) (by decide +kernel))) (by decide +kernel))
    · exact (tb_mem (t_in2 (List.mem_of_getElem? (i := 7) (by decide +kernel))) (by decide +kernel))
    · exact (tb_mem (t_in2 (List.mem_of_getElem? (i := 9) (by decide +kernel))) (by decide +kernel))
    · exact (tb_mem (t_in2 (List.mem_of_getElem? (i := 11) (by decide +kernel))) (by decide +kernel))
    · exact (tb_mem (t_in2 (List.mem_of_getElem? (i := 13) (by decide +kernel))) (by decide +kernel))
    · exact (tb_mem (t_in2 (List.mem_of_getElem? (i := 15) (by decide +kernel))) (by decide +kernel))
    · exact (tb_mem (t_in2 (List.mem_of_getElem? (i := 17) (by decide +kernel))) (by decide +kernel))
  intro w hw
  obtain ⟨k, hk, e⟩ := List.mem_map.mp hw
  rw [← e]
  exact h k (List.mem_range.mp hk)
theorem uwX3 : ∀ w ∈ u_ws RX3 TX3 7, w ∈ tb := by
  have h : ∀ k, k < 7 → u_lay RX3 TX3 k ∈ tb := by
    intro k hk
    have hk2 : k = 0 ∨ k = 1 ∨ k = 2 ∨ k = 3 ∨ k = 4 ∨ k = 5 ∨ k = 6 := by omega
    rcases hk2 with rfl | rfl | rfl | rfl | rfl | rfl | rfl
    · exact (tb_mem (t_in1 (List.mem_of_getElem? (i := 91) (by decide +kernel))) (by decide +kernel))
    · exact (tb_mem (t_in1 (List.mem_of_getElem? (i := 93) (by decide +kernel))) (by decide +kernel))
    · exact (tb_mem (t_in1 (List.mem_of_getElem? (i := 95) (by decide +kernel))) (by decide +kernel))
    · exact (tb_mem (t_in1 (List.mem_of_getElem? (i := 97) (by decide +kernel))) (by decide +kernel))
    · exact (tb_mem (t_in1 (List.mem_of_getElem? (i := 99) (by decide +kernel))) (by decide +kernel))
    · exact (tb_mem (t_in1 (List.mem_of_getElem? (i := 101) (by decide +kernel))) (by decide +kernel))
    · exact (tb_mem (t_in1 (List.mem_of_getElem? (i := 103) (by decide +kernel))) (by decide +kernel))
  intro w hw
  obtain ⟨k, hk, e⟩ := List.mem_map.mp hw
  rw [← e]
  exact h k (List.mem_range.mp hk)
theorem uwX4 : ∀ w ∈ u_ws RX4 TX4 3, w ∈ tb := by
  have h : ∀ k, k < 3 → u_lay RX4 TX4 k ∈ tb := by
    intro k hk
    have hk2 : k = 0 ∨ k = 1 ∨ k = 2 := by omega
    rcases hk2 with rfl | rfl | rfl
    · exact (tb_mem (t_in1 (List.mem_of_getElem? (i := 199) (by decide +kernel))) (by decide +kernel))
    · exact (tb_mem (t_in1 (List.mem_of_getElem? (i := 201) (by decide +kernel))) (by decide +kernel))
    · exact (tb_mem (t_in1 (List.mem_of_getElem? (i := 203) (by decide +kernel))) (by decide +kernel))
  intro w hw
  obtain ⟨k, hk, e⟩ := List.mem_map.mp hw
  rw [← e]
  exact h k (List.mem_range.mp hk)
theorem uwX5 : ∀ w ∈ u_ws RX5 TX5 4, w ∈ tb := by
  have h : ∀ k, k < 4 → u_lay RX5 TX5 k ∈ tb := by
    intro k hk
    have hk2 : k = 0 ∨ k = 1 ∨ k = 2 ∨ k = 3 := by omega
    rcases hk2 with rfl | rfl | rfl | rfl
    · exact (tb_mem (t_in1 (List.mem_of_getElem? (i := 37) (by decide +kernel))) (by decide +kernel))
    · exact (tb_mem (t_in1 (List.mem_of_getElem? (i := 39) (by decide +kernel))) (by decide +kernel))
    · exact (tb_mem (t_in1 (List.mem_of_getElem? (i := 41) (by decide +kernel))) (by decide +kernel))
    · exact (tb_mem (t_in1 (List.mem_of_getElem? (i := 43) (by decide +kernel))) (by decide +kernel))
  intro w hw
  obtain ⟨k, hk, e⟩ := List.mem_map.mp hw
  rw [← e]
  exact h k (List.mem_range.mp hk)
theorem uwX6 : ∀ w ∈ u_ws RX6 TX6 4, w ∈ tb := by
  have h : ∀ k, k < 4 → u_lay RX6 TX6 k ∈ tb := by
    intro k hk
    have hk2 : k = 0 ∨ k = 1 ∨ k = 2 ∨ k = 3 := by omega
    rcases hk2 with rfl | rfl | rfl | rfl
    · exact (tb_mem (t_in1 (List.mem_of_getElem? (i := 175) (by decide +kernel))) (by decide +kernel))
    · exact (tb_mem (t_in1 (List.mem_of_getElem? (i := 177) (by decide +kernel))) (by decide +kernel))
    · exact (tb_mem (t_in1 (List.mem_of_getElem? (i := 179) (by decide +kernel))) (by decide +kernel))
    · exact (tb_mem (t_in1 (List.mem_of_getElem? (i := 181) (by decide +kernel))) (by decide +kernel))
  intro w hw
  obtain ⟨k, hk, e⟩ := List.mem_map.mp hw
  rw [← e]
  exact h k (List.mem_range.mp hk)
theorem uwX7 : ∀ w ∈ u_ws RX7 TX7 13, w ∈ tb := by
  have h : ∀ k, k < 13 → u_lay RX7 TX7 k ∈ tb := by
    intro k hk
    have hk2 : k = 0 ∨ k = 1 ∨ k = 2 ∨ k = 3 ∨ k = 4 ∨ k = 5 ∨ k = 6 ∨ k = 7 ∨ k = 8 ∨ k = 9 ∨ k = 10 ∨ k = 11 ∨ k = 12 := by omega
    rcases hk2 with rfl | rfl | rfl | rfl | rfl | rfl | rfl | rfl | rfl | rfl | rfl | rfl | rfl
    · exact (tb_mem (t_in2 (List.mem_of_getElem? (i := 228) (by decide +kernel))) (by decide +kernel))
    · exact (tb_mem (t_in2 (List.mem_of_getElem? (i := 230) (by decide +kernel))) (by decide +kernel))
    · exact (tb_mem (t_in2 (List.mem_of_getElem? (i := 232) (by decide +kernel))) (by decide +kernel))
    · exact (tb_mem (t_in2 (List.mem_of_getElem? (i := 234) (by decide +kernel))) (by decide +kernel))
    · exact (tb_mem (t_in2 (List.mem_of_getElem? (i := 236) (by decide +kernel))) (by decide +kernel))
    · exact (tb_mem (t_in2 (List.mem_of_getElem? (i := 238) (by decide +kernel))) (by decide +kernel))
    · exact (tb_mem (t_in3 (List.mem_of_getElem? (i := 0) (by decide +kernel))) (by decide +kernel))
    · exact (tb_mem (t_in3 (List.mem_of_getElem? (i := 2) (by decide +kernel))) (by decide +kernel))
    · exact (tb_mem (t_in3 (List.mem_of_getElem? (i := 4) (by decide +kernel))) (by decide +kernel))
    · exact (tb_mem (t_in3 (List.mem_of_getElem? (i := 6) (by decide +kernel))) (by decide +kernel))
    · exact (tb_mem (t_in3 (List.mem_of_getElem? (i := 8) (by decide +kernel))) (by decide +kernel))
    · exact (tb_mem (t_in3 (List.mem_of_getElem? (i := 10) (by decide +kernel))) (by decide +kernel))
    · exact (tb_mem (t_in3 (List.mem_of_getElem? (i := 12) (by decide +kernel))) (by decide +kernel))
  intro w hw
  obtain ⟨k, hk, e⟩ := List.mem_map.mp hw
  rw [← e]
  exact h k (List.mem_range.mp hk)
theorem uwX8 : ∀ w ∈ u_ws RX8 TX8 29, w ∈ tb := by
  have h : ∀ k, k < 29 → u_lay RX8 TX8 k ∈ tb := by
    intro k hk
    have hk2 : k = 0 ∨ k = 1 ∨ k = 2 ∨ k = 3 ∨ k = 4 ∨ k = 5 ∨ k = 6 ∨ k = 7 ∨ k = 8 ∨ k = 9 ∨ k = 10 ∨ k = 11 ∨ k = 12 ∨ k = 13 ∨ k = 14 ∨ k = 15 ∨ k = 16 ∨ k = 17 ∨ k = 18 ∨ k = 19 ∨ k = 20 ∨ k = 21 ∨ k = 22 ∨ k = 23 ∨ k = 24 ∨ k = 25 ∨ k = 26 ∨ k = 27 ∨ k = 28 := by omega
    rcases hk2 with rfl | rfl | rfl | rfl | rfl | rfl | rfl | rfl | rfl | rfl | rfl | rfl | rfl | rfl | rfl | rfl | rfl | rfl | rfl | rfl | rfl | rfl | rfl | rfl | rfl | rfl | rfl | rfl | rfl
    · exact (tb_mem (t_in4 (List.mem_of_getElem? (i := 137) (by decide +kernel))) (by decide +kernel))
    · exact (tb_mem (t_in4 (List.mem_of_getElem? (i := 139) (by decide +kernel))) (by decide +kernel))
    · exact (tb_mem (t_in4 (List.mem_of_getElem? (i := 141) (by decide +kernel))) (by decide +kernel))
    · exact (tb_mem (t_in4 (List.mem_of_getElem? (i := 143) (by decide +kernel))) (by decide +kernel))
    · exact (tb_mem (t_in4 (List.mem_of_getElem? (i := 145) (by decide +kernel))) (by decide +kernel))
    · exact (tb_mem (t_in4 (List.mem_of_getElem? (i := 147) (by decide +kernel))) (by decide +kernel))
    · exact (tb_mem (t_in4 (List.mem_of_getElem? (i := 149) (by decide +kernel))) (by decide +kernel))
    · exact (tb_mem (t_in4 (List.mem_of_getElem? (i := 151) (by decide +kernel))) (by decide +kernel))
    · exact (tb_mem (t_in4 (List.mem_of_getElem? (i := 153) (by decide +kernel))) (by decide +kernel))
    · exact (tb_mem (t_in4 (List.mem_of_getElem? (i := 155) (by decide +kernel))) (by decide +kernel))
    · exact (tb_mem (t_in4 (List.mem_of_getElem? (i := 157) (by decide +kernel))) (by decide +kernel))
    · exact (tb_mem (t_in4 (List.mem_of_getElem? (i := 159) (by decide +kernel))) (by decide +kernel))
    · exact (tb_mem (t_in4 (List.mem_of_getElem? (i := 161) (by decide +kernel))) (by decide +kernel))
    · exact (tb_mem (t_in4 (List.mem_of_getElem? (i := 163) (by decide +kernel))) (by decide +kernel))
    · exact (tb_mem (t_in4 (List.mem_of_getElem? (i := 165) (by decide +kernel))) (by decide +kernel))
    · exact (tb_mem (t_in4 (List.mem_of_getElem? (i := 167) (by decide +kernel))) (by decide +kernel))
    · exact (tb_mem (t_in4 (List.mem_of_getElem? (i := 169) (by decide +kernel))) (by decide +kernel))
    · exact (tb_mem (t_in4 (List.mem_of_getElem? (i := 171) (by decide +kernel))) (by decide +kernel))
    · exact (tb_mem (t_in4 (List.mem_of_getElem? (i := 173) (by decide +kernel))) (by decide +kernel))
    · exact (tb_mem (t_in4 (List.mem_of_getElem? (i := 175) (by decide +kernel))) (by decide +kernel))
    · exact (tb_mem (t_in4 (List.mem_of_getElem? (i := 177) (by decide +kernel))) (by decide +kernel))
    · exact (tb_mem (t_in4 (List.mem_of_getElem? (i := 179) (by decide +kernel))) (by decide +kernel))
    · exact (tb_mem (t_in4 (List.mem_of_getElem? (i := 181) (by decide +kernel))) (by decide +kernel))
    · exact (tb_mem (t_in4 (List.mem_of_getElem? (i := 183) (by decide +kernel))) (by decide +kernel))
    · exact (tb_mem (t_in4 (List.mem_of_getElem? (i := 185) (by decide +kernel))) (by decide +kernel))
    · exact (tb_mem (t_in4 (List.mem_of_getElem? (i := 187) (by decide +kernel))) (by decide +kernel))
    · exact (tb_mem (t_in4 (List.mem_of_getElem? (i := 189) (by decide +kernel))) (by decide +kernel))
    · exact (tb_mem (t_in4 (List.mem_of_getElem? (i := 191) (by decide +kernel))) (by decide +kernel))
    · exact (tb_mem (t_in4 (List.mem_of_getElem? (i := 193) (by decide +kernel))) (by decide +kernel))
  intro w hw
  obtain ⟨k, hk, e⟩ := List.mem_map.mp hw
  rw [← e]
  exact h k (List.mem_range.mp hk)
/-- every place of a row gets one value -/
def filM (M : Mem) (r : Nat) (i n v : Int) : Mem := fun r' i' j => if r' = r ∧ i' = i ∧ 0 ≤ j ∧ j < n then v else M r' i' j
theorem filM_0 (M : Mem) (r : Nat) (i v : Int) : filM M r i 0 v = M := by
  funext r' i' j
  unfold filM
  rw [if_neg (by omega)]
theorem filM_s (M : Mem) (r : Nat) (i n v : Int) (hn : 0 ≤ n) : up3 (filM M r i n v) r i n v = filM M r i (n + 1) v := by
  funext r' i' j
  unfold up3 filM
  by_cases h : r' = r ∧ i' = i
  · obtain ⟨h1, h2⟩ := h
    by_cases h3 : j = n
    · rw [if_pos ⟨h1, h2, h3⟩, if_pos ⟨h1, h2, by omega, by omega⟩]
    · rw [if_neg (fun q => h3 q.2.2)]
      by_cases h4 : 0 ≤ j ∧ j < n
      · rw [if_pos ⟨h1, h2, h4⟩, if_pos ⟨h1, h2, by omega, by omega⟩]
      · rw [if_neg (fun q => h4 q.2.2), if_neg (fun q => h4 ⟨q.2.2.1, by have := q.2.2.2; omega⟩)]
  · rw [if_neg (fun q => h ⟨q.1, q.2.1⟩), if_neg (fun q => h ⟨q.1, q.2.1⟩), if_neg (fun q => h ⟨q.1, q.2.1⟩)]
theorem up3_s (M : Mem) (r : Nat) (i j v : Int) : up3 M r i j v r i j = v := if_pos ⟨rfl, rfl, rfl⟩
theorem up3_r (M : Mem) (r : Nat) (i j v : Int) {r' : Nat} (h : r' ≠ r) (i' j' : Int) : up3 M r i j v r' i' j' = M r' i' j' := if_neg (fun q => h q.1)
theorem up3_i (M : Mem) (r : Nat) (i j v : Int) {r' : Nat} {i' : Int} (h : i' ≠ i) (j' : Int) : up3 M r i j v r' i' j' = M r' i' j' := if_neg (fun q => h q.2.1)
theorem up3_j (M : Mem) (r : Nat) (i j v : Int) {r' : Nat} {i' j' : Int} (h : j' ≠ j) : up3 M r i j v r' i' j' = M r' i' j' := if_neg (fun q => h q.2.2)
theorem v_alen {κ : Kx} {own : String} {cc : ByteArray} {nL : Nat} {ret : Option FieldType} {rm : Room} {dom : Nat → Bool} {M : Mem} {pc : Nat} {lv : List (Option PV)} {st : List PV} {K : Kont} (C : Cx κ own cc nL ret rm dom) {r : Nat} {i : Int} (hd : decode cc pc = .ok (.arraylength, 1)) (hk : kd r = 20) (hs : inR (sz r)) (k : V κ nL M (pc + 1) lv (.inl (sz r) :: st) K) : V κ nL M pc lv (.inr (r, i) :: st) K := by
  refine ⟨?_, trivial⟩
  intro oM oL oS H locs ls hH hS hl
  obtain ⟨hv, oS⟩ := oS
  have h := k.1 oM oL ⟨hs, oS⟩ H locs ls hH hS hl
  have hat := hH r i hv.1 hv.2.1 hv.2.2
  rw [ent_int hk] at hat
  refine va_alen C.1 C.2.1 C.2.2.2.2.2.2.1 (P_one hat) 0 0 rfl rfl (v := Int32.ofInt (sz r)) ?_ hd h
  rw [Int32.ofInt_eq_ofNat]
theorem sz_small : ∀ r, inR (sz r) := by
  intro r
  by_cases h : r < 57
  · have key : ∀ r, r < 57 → sz r ≤ 20000 := by decide
    have := key r h
    constructor <;> omega
  · have : sz r = 0 := by
      unfold sz
      have e : rgT.getD r (99, 0, 0) = (99, 0, 0) := by
        rw [List.getD_eq_getElem?_getD, List.getElem?_eq_none (by simp [rgT]; omega)]
        rfl
      rw [e]
    rw [this]
    decide
abbrev rmJ7_fill : Room := { frames := 0, cells := 0, slots := 0, locals := 0 }
abbrev argFill (a : Nat × Int × Int) : List PV := [.inr (a.1, a.2.1), .inl a.2.2]
abbrev spFill (a : Nat × Int × Int) (M : Mem) (K : Kont) : Prop := kd a.1 = 20 ∧ K none (filM M a.1 a.2.1 (sz a.1) a.2.2)
theorem dJ7_fill_53178_0 : decode cJ7_fill_53178 0 = .ok (.iconst 0, 1) := by decide +kernel
theorem dJ7_fill_53178_1 : decode cJ7_fill_53178 1 = .ok (.istore_n 2, 1) := by decide +kernel
theorem dJ7_fill_53178_2 : decode cJ7_fill_53178 2 = .ok (.aload_n 0, 1) := by decide +kernel
theorem dJ7_fill_53178_3 : decode cJ7_fill_53178 3 = .ok (.arraylength, 1) := by decide +kernel
theorem dJ7_fill_53178_4 : decode cJ7_fill_53178 4 = .ok (.istore_n 3, 1) := by decide +kernel
theorem dJ7_fill_53178_5 : decode cJ7_fill_53178 5 = .ok (.iload_n 2, 1) := by decide +kernel
theorem dJ7_fill_53178_6 : decode cJ7_fill_53178 6 = .ok (.iload_n 3, 1) := by decide +kernel
theorem dJ7_fill_53178_7 : decode cJ7_fill_53178 7 = .ok (.if_icmp .ge 13, 3) := by decide +kernel
theorem dJ7_fill_53178_10 : decode cJ7_fill_53178 10 = .ok (.aload_n 0, 1) := by decide +kernel
theorem dJ7_fill_53178_11 : decode cJ7_fill_53178 11 = .ok (.iload_n 2, 1) := by decide +kernel
theorem dJ7_fill_53178_12 : decode cJ7_fill_53178 12 = .ok (.iload_n 1, 1) := by decide +kernel
theorem dJ7_fill_53178_13 : decode cJ7_fill_53178 13 = .ok (.iastore, 1) := by decide +kernel
theorem dJ7_fill_53178_14 : decode cJ7_fill_53178 14 = .ok (.iinc 2 1, 3) := by decide +kernel
theorem dJ7_fill_53178_17 : decode cJ7_fill_53178 17 = .ok (.goto (-12), 3) := by decide +kernel
theorem dJ7_fill_53178_20 : decode cJ7_fill_53178 20 = .ok (.return_, 1) := by decide +kernel
theorem fill_loop {κ : Kx} {K : Kont} {M : Mem} {dom : Nat → Bool} (C : Cx κ RJ7 cJ7_fill_53178 4 none rmJ7_fill dom) (r : Nat) (i v : Int) (hr : kd r = 20) (h : K none (filM M r i (sz r) v)) :
    ∀ (n : Nat) (j : Int), 0 ≤ j → j + n = sz r → V κ 4 (filM M r i j v) 5 [some (.inr (r, i)), some (.inl v), some (.inl j), some (.inl (sz r))] [] K := by
  intro n
  induction n with
  | zero =>
    intro j h0 hj
    have e : j = sz r := by omega
    refine v_iload_n C dJ7_fill_53178_5 rfl ?_
    refine v_iload_n C dJ7_fill_53178_6 rfl ?_
    refine v_icmp C dJ7_fill_53178_7 (tgt := 20) (by decide) (P := (sz r : Int) ≤ j) rfl (fun c => ?_) (fun c => ?_)
    · rw [e]
      exact v_vret C dJ7_fill_53178_20 h
    · exact absurd (by omega) c
  | succ n ih =>
    intro j h0 hj
    have hz := sz_small r
    refine v_iload_n C dJ7_fill_53178_5 rfl ?_
    refine v_iload_n C dJ7_fill_53178_6 rfl ?_
    refine v_icmp C dJ7_fill_53178_7 (tgt := 20) (by decide) (P := (sz r : Int) ≤ j) rfl (fun c => ?_) (fun c => ?_)
    · exact absurd c (by omega)
    · refine v_aload_n C dJ7_fill_53178_10 rfl ?_
      refine v_iload_n C dJ7_fill_53178_11 rfl ?_
      refine v_iload_n C dJ7_fill_53178_12 rfl ?_
      refine v_iast C dJ7_fill_53178_13 hr h0 (by omega) ?_
      rw [filM_s _ _ _ _ _ h0]
      refine v_iinc C dJ7_fill_53178_14 (by decide) rfl (by omega) (lv' := [some (.inr (r, i)), some (.inl v), some (.inl (j + 1)), some (.inl (sz r))]) rfl ?_
      refine v_goto C dJ7_fill_53178_17 (tgt := 5) (by decide) ?_
      exact ih (j + 1) (by omega) (by omega)
theorem ctFill (dom : Nat → Bool) (hdm : Dm dom) : Ct yJ7_fill_53178 cJ7_fill_53178 4 none rmJ7_fill dom argFill spFill := by
  refine ct_of (by decide) hdm (fun _ => Nat.le_of_ble_eq_true rfl) ?_
  intro κ a M K C oM h
  obtain ⟨r, i, v⟩ := a
  show V κ 4 M 0 [some (.inr (r, i)), some (.inl v), none, none] [] K
  refine v_iconst C dJ7_fill_53178_0 (by decide) ?_
  refine v_istore_n C dJ7_fill_53178_1 (by decide) (Nat.le_of_ble_eq_true rfl) (lv' := [some (.inr (r, i)), some (.inl v), some (.inl 0), none]) rfl ?_
  refine v_aload_n C dJ7_fill_53178_2 rfl ?_
  refine v_alen C dJ7_fill_53178_3 h.1 (sz_small r) ?_
  refine v_istore_n C dJ7_fill_53178_4 (by decide) (Nat.le_of_ble_eq_true rfl) (lv' := [some (.inr (r, i)), some (.inl v), some (.inl 0), some (.inl (sz r))]) rfl ?_
  have := fill_loop (M := M) C r i v h.1 h.2 (sz r) 0 (by omega) (by omega)
  rw [filM_0] at this
  exact this
end
section
/-! ===== System.arraycopy over rows of ints ===== -/
def cpyM (M : Mem) (r0 : Nat) (i0 sp : Int) (r1 : Nat) (i1 dp n : Int) : Mem := fun r' i' j => if r' = r1 ∧ i' = i1 ∧ dp ≤ j ∧ j < dp + n then M r0 i0 (sp + (j - dp)) else M r' i' j
theorem okM_cpy {M : Mem} (h : okM M) (r0 : Nat) (i0 sp : Int) (r1 : Nat) (i1 dp n : Int) : okM (cpyM M r0 i0 sp r1 i1 dp n) := by
  intro r i j
  unfold cpyM
  split
  · exact h _ _ _
  · exact h _ _ _
def ICp (own : String) (idx : Nat) : Prop := Cond.methodLink own idx arraycopyName ∈ tb ∧ Cond.native arraycopyName ∈ tb ∧ Cond.static arraycopyName ∈ tb ∧ Cond.initialized "java/lang/System" ∈ tb
set_option maxHeartbeats 4000000 in
theorem v_copy {κ : Kx} {own : String} {cc : ByteArray} {nL : Nat} {ret : Option FieldType} {rm : Room} {dom : Nat → Bool} {M : Mem} {pc : Nat} {lv : List (Option PV)} {st : List PV} {K : Kont} (C : Cx κ own cc nL ret rm dom) {idx : Nat} {r0 r1 : Nat} {i0 i1 sp dp n : Int} (hd : decode cc pc = .ok (.invokestatic idx, 3)) (hw : ICp own idx) (hk0 : kd r0 = 20) (hk1 : kd r1 = 20)
    (h0 : 0 ≤ sp) (h1 : 0 ≤ dp) (h2 : 0 ≤ n) (h3 : sp + n ≤ sz r0) (h4 : dp + n ≤ sz r1) (h8 : st.length ≤ 8) (hR : 1 ≤ rm.frames ∧ 26 ≤ rm.locals) (k : V κ nL (cpyM M r0 i0 sp r1 i1 dp n) (pc + 3) lv st K) : V κ nL M pc lv (.inl n :: .inl dp :: .inr (r1, i1) :: .inl sp :: .inr (r0, i0) :: st) K := by
  refine ⟨?_, trivial⟩
  intro oM oL oS H locs ls hH hS hl
  obtain ⟨on, odp, ov1, osp, ov0, oS⟩ := oS
  have on : inR n := on
  have odp : inR dp := odp
  have osp : inR sp := osp
  obtain ⟨c1, c2, c3, c4, c5, c6, c7, c8, c9, c10, c11, c12, c13⟩ := id C
  have hc0 := hH r0 i0 ov0.1 ov0.2.1 ov0.2.2
  have hc1 := hH r1 i1 ov1.1 ov1.2.1 ov1.2.2
  rw [ent_int hk0] at hc0
  rw [ent_int hk1] at hc1
  have hc0 : H[κ.2.2.2.1 r0 i0]? = some (vp_cell κ.2.2.2.2.1.1 (sz r0, .inl (fun j => Int32.ofInt (M r0 i0 j)))) := hc0
  have hc1 : H[κ.2.2.2.1 r1 i1]? = some (vp_cell κ.2.2.2.2.1.1 (sz r1, .inl (fun j => Int32.ofInt (M r1 i1 j)))) := hc1
  have tp : (tysX κ.2.2.2.2.1)[0]? = some (κ.2.2.2.2.1.1, .int) := rfl
  have g1 : ¬ Int32.ofInt sp < 0 := fun q => by have := (oi_lt osp (y := 0) (by decide)).mp q; omega
  have g2 : ¬ Int32.ofInt dp < 0 := fun q => by have := (oi_lt odp (y := 0) (by decide)).mp q; omega
  have g3 : ¬ Int32.ofInt n < 0 := fun q => by have := (oi_lt on (y := 0) (by decide)).mp q; omega
  have hrr := rest_room (ad := κ.2.2.2.1) st h8
  intro T hT X
  obtain ⟨-, k0, hk0', cm0, hkk0⟩ := (c7.2 0 _ tp).1 (sz r0) (fun j => .int (Int32.ofInt (M r0 i0 j)))
  obtain ⟨-, k1, hk1', cm1, hkk1⟩ := (c7.2 0 _ tp).1 (sz r1) (fun j => .int (Int32.ofInt (M r1 i1 j)))
  obtain ⟨vm', X', step⟩ := X.arraycopy c1 c4 (c5 _ hw.1) (c5 _ hw.2.1) (c5 _ hw.2.2.1) (c5 _ hw.2.2.2) (src := κ.2.2.2.1 r0 i0) (dst := κ.2.2.2.1 r1 i1) (cs := vp_cell κ.2.2.2.2.1.1 (sz r0, .inl (fun j => Int32.ofInt (M r0 i0 j)))) (cd := vp_cell κ.2.2.2.2.1.1 (sz r1, .inl (fun j => Int32.ofInt (M r1 i1 j)))) (srcPos := Int32.ofInt sp) (destPos := Int32.ofInt dp) (n := Int32.ofInt n) (by rw [hT]; exact hc0) (by rw [hT]; exact hc1)
    (fun _ h => by cases h) (fun _ h => by cases h) (fun h => by cases h) (fun h => by cases h) hk0' hk1' hkk0 hkk1 (by simp [refKind]) g1 g2 g3
    (by rw [oi_toInt osp, oi_toInt on]; show ¬ _ > ((arrV _ (sz r0) (fun j => .int (Int32.ofInt (M r0 i0 j)))).slots.size : Int); rw [arrV_size]; omega)
    (by rw [oi_toInt odp, oi_toInt on]; show ¬ _ > ((arrV _ (sz r1) (fun j => .int (Int32.ofInt (M r1 i1 j)))).slots.size : Int); rw [arrV_size]; omega)
    (fun vm₁ _ i hi => by
      rw [oi_clamp on] at hi
      have e : (vp_cell κ.2.2.2.2.1.1 (sz r0, .inl (fun j => Int32.ofInt (M r0 i0 j)))).slots.getD ((Int32.ofInt sp).toNatClampNeg + i) .null = .int (Int32.ofInt (M r0 i0 (((Int32.ofInt sp).toNatClampNeg + i : Nat) : Int))) := by
        show (arrV _ (sz r0) (fun j => .int (Int32.ofInt (M r0 i0 j)))).slots.getD _ _ = _
        rw [Array.getD_eq_getD_getElem?, arrV_read _ _ (by rw [oi_clamp osp]; omega)]
        rfl
      refine ⟨?_, ?_⟩
      · rw [e]
        rfl
      · rw [e]
        exact trivial)
    (g := F0 κ.2.1.1 pc ls (.int (Int32.ofInt n) :: .int (Int32.ofInt dp) :: .ref (κ.2.2.2.1 r1 i1) :: .int (Int32.ofInt sp) :: .ref (κ.2.2.2.1 r0 i0) :: st.map (emb κ.2.2.2.1))) rfl (by rw [c3]; exact hl.1) (rest := st.map (emb κ.2.2.2.1)) rfl (by rw [c2]; exact hd) (by rw [c11]; exact hR.1) (by show 2 * 0 + _ + (7 + 11) ≤ _; rw [c11]; have := hR.2; omega)
  have e1 : copied (vp_cell κ.2.2.2.2.1.1 (sz r0, .inl (fun j => Int32.ofInt (M r0 i0 j)))) (vp_cell κ.2.2.2.2.1.1 (sz r1, .inl (fun j => Int32.ofInt (M r1 i1 j)))) (Int32.ofInt sp) (Int32.ofInt dp) (Int32.ofInt n) = vp_cell κ.2.2.2.2.1.1 (sz r1, .inl (fun j => Int32.ofInt (cpyM M r0 i0 sp r1 i1 dp n r1 i1 j))) := by
    have hb4 : (Int32.ofInt sp).toNatClampNeg + (Int32.ofInt n).toNatClampNeg ≤ sz r0 := by rw [oi_clamp osp, oi_clamp on]; omega
    refine (va_copied (fun z => .int z) _ _ (fun j : Nat => Int32.ofInt (M r0 i0 j)) (fun j : Nat => Int32.ofInt (M r1 i1 j)) hb4).trans ?_
    rw [vp_cell_i]
    dsimp only
    congr 1
    funext j
    congr 1
    unfold va_cpy cpyM
    rw [oi_clamp osp, oi_clamp odp, oi_clamp on]
    by_cases hj : dp.toNat ≤ j ∧ j < dp.toNat + n.toNat
    · rw [if_pos hj, if_pos ⟨rfl, rfl, by omega, by omega⟩]
      have e9 : ((sp.toNat + (j - dp.toNat) : Nat) : Int) = sp + ((j : Int) - dp) := by omega
      show Int32.ofInt (M r0 i0 ((sp.toNat + (j - dp.toNat) : Nat) : Int)) = _
      rw [e9]
    · rw [if_neg hj, if_neg (fun z => hj ⟨by have := z.2.2; omega, by have := z.2.2; omega⟩)]
  rw [e1] at X' step
  have hl1 : κ.2.2.2.1 r1 i1 < H.size := (Array.getElem?_eq_some_iff.mp hc1).1
  have hheap : ((T.setVm vm').setCell (κ.2.2.2.1 r1 i1) (vp_cell κ.2.2.2.2.1.1 (sz r1, .inl (fun j => Int32.ofInt (cpyM M r0 i0 sp r1 i1 dp n r1 i1 j))))).heap = H.setIfInBounds (κ.2.2.2.1 r1 i1) (vp_cell κ.2.2.2.2.1.1 (sz r1, .inl (fun j => Int32.ofInt (cpyM M r0 i0 sp r1 i1 dp n r1 i1 j)))) := by rw [← hT]; rfl
  have oq : ∀ q : Nat, q ≠ κ.2.2.2.1 r1 i1 → (H.setIfInBounds (κ.2.2.2.1 r1 i1) (vp_cell κ.2.2.2.2.1.1 (sz r1, .inl (fun j => Int32.ofInt (cpyM M r0 i0 sp r1 i1 dp n r1 i1 j)))))[q]? = H[q]? := fun q hq => by simp [Array.getElem?_setIfInBounds, Ne.symm hq]
  have hn1 : HI κ.2.2.1 κ.2.2.2.1 κ.2.2.2.2.1 κ.2.2.2.2.2 (cpyM M r0 i0 sp r1 i1 dp n) (H.setIfInBounds (κ.2.2.2.1 r1 i1) (vp_cell κ.2.2.2.2.1.1 (sz r1, .inl (fun j => Int32.ofInt (cpyM M r0 i0 sp r1 i1 dp n r1 i1 j))))) := by
    refine HI_put c8 ov1 hH ?_ ?_ oq
    · intro r' i' hne
      funext j'
      unfold cpyM
      rw [if_neg (fun z => hne ⟨z.1, z.2.1⟩)]
    · rw [ent_int hk1]
      show (H.setIfInBounds _ _)[_]? = some _
      simp [Array.getElem?_setIfInBounds, hl1]
  obtain ⟨t, a1, b1⟩ := k.1 (okM_cpy oM _ _ _ _ _ _ _) oL oS _ _ ls hn1 ⟨by simp; exact hS.1, fun q g1 g2 => by
      rw [oq q (fun e => g2 (by rw [e]; exact frA_in ov1))]
      exact hS.2.1 q g1 g2, fun q hq => by
      rcases List.mem_append.mp hq with h | h
      · exact hS.2.2 q h
      · obtain ⟨z, -, hz⟩ := List.mem_map.mp h
        rw [← hz]
        exact frA_in ov1⟩ hl _ hheap X'
  exact ⟨t, step t a1, b1⟩
end
section
/-! ===== bits ===== -/
theorem oi_nI {x : Int} (h : 0 ≤ x) : Int32.ofInt x = nI x.toNat := by
  show Int32.ofInt x = Int32.ofNat x.toNat
  rw [← Int32.ofInt_eq_ofNat, oi_nat h]
theorem toInt_nat {z : Int32} {n : Nat} (h : z.toBitVec.toNat = n) (hn : n < 2147483648) : z.toInt = n := by
  show z.toBitVec.toInt = n
  rw [BitVec.toInt_eq_toNat_of_lt (by omega), h]
theorem cast_lt31 {n : Nat} (h : n < 2147483648) : (n : Int) < 2147483648 := by omega
theorem bAnd_nat {x y : Int} (hx : 0 ≤ x) (hx2 : x < 2147483648) (hy : 0 ≤ y) (hy2 : y < 2147483648) : bAnd x y = ((x.toNat &&& y.toNat : Nat) : Int) := by
  unfold bAnd
  rw [oi_nI hx, oi_nI hy]
  have hle : x.toNat &&& y.toNat ≤ x.toNat := Nat.and_le_left
  refine toInt_nat ?_ (by omega)
  rw [Int32.toBitVec_and, BitVec.toNat_and, pk_tn (by omega), pk_tn (by omega)]
theorem or_lt31 {a b : Nat} (ha : a < 2147483648) (hb : b < 2147483648) : a ||| b < 2147483648 := Nat.or_lt_two_pow (n := 31) ha hb
theorem bOr_nat {x y : Int} (hx : 0 ≤ x) (hx2 : x < 2147483648) (hy : 0 ≤ y) (hy2 : y < 2147483648) : bOr x y = ((x.toNat ||| y.toNat : Nat) : Int) := by
  unfold bOr
  rw [oi_nI hx, oi_nI hy]
  refine toInt_nat ?_ (or_lt31 (by omega) (by omega))
  rw [Int32.toBitVec_or, BitVec.toNat_or, pk_tn (by omega), pk_tn (by omega)]
theorem bShl_key : ∀ n : Nat, n < 31 → bShl 1 (n : Int) = ((2 ^ n : Nat) : Int) := by decide +kernel
theorem bShl_nat {k : Int} (h0 : 0 ≤ k) (h1 : k < 31) : bShl 1 k = ((2 ^ k.toNat : Nat) : Int) := by
  have := bShl_key k.toNat (by omega)
  rw [oi_nat h0] at this
  exact this
theorem bShr_key : ∀ n : Nat, n < 31 → ((Int32.ofInt (n : Int) &&& 31).toBitVec.smod 32).toNat = n := by decide +kernel
theorem bShr_nat {x k : Int} (hx : 0 ≤ x) (hx2 : x < 2147483648) (h0 : 0 ≤ k) (h1 : k < 31) : bShr x k = ((x.toNat / 2 ^ k.toNat : Nat) : Int) := by
  unfold bShr
  have hk := bShr_key k.toNat (by omega)
  rw [oi_nat h0] at hk
  rw [oi_nI hx, pk_shrN (by omega) _ k.toNat hk]
  have hle : x.toNat / 2 ^ k.toNat ≤ x.toNat := Nat.div_le_self _ _
  exact nI_toInt (by omega)
theorem pow_lt31 {k : Int} (h0 : 0 ≤ k) (h1 : k < 31) : 2 ^ k.toNat < 2147483648 := by
  have : 2 ^ k.toNat < 2 ^ 31 := Nat.pow_lt_pow_right (by decide) (by omega)
  exact this
/-- a bit of a number -/
def bit (x k : Int) : Bool := x.toNat.testBit k.toNat
theorem and_bit {x k : Int} (hx : 0 ≤ x) (hx2 : x < 2147483648) (h0 : 0 ≤ k) (h1 : k < 31) : bAnd x (bShl 1 k) = 0 ↔ bit x k = false := by
  have hp := pow_lt31 h0 h1
  rw [bShl_nat h0 h1, bAnd_nat hx hx2 (Int.natCast_nonneg _) (cast_lt31 hp)]
  unfold bit
  rw [Int.toNat_natCast]
  constructor
  · intro h
    have h' : x.toNat &&& 2 ^ k.toNat = 0 := by exact_mod_cast h
    have := Nat.testBit_and x.toNat (2 ^ k.toNat) k.toNat
    rw [h', Nat.testBit_two_pow_self, Nat.zero_testBit, Bool.and_true] at this
    exact this.symm
  · intro h
    have : x.toNat &&& 2 ^ k.toNat = 0 := by
      apply Nat.eq_of_testBit_eq
      intro i
      rw [Nat.testBit_and, Nat.testBit_two_pow, Nat.zero_testBit]
      by_cases e : k.toNat = i
      · rw [← e, h, Bool.false_and]
      · simp [e]
    rw [this]
    rfl
theorem bit_or {x k a : Int} (hx : 0 ≤ x) (hx2 : x < 2147483648) (h0 : 0 ≤ a) (h1 : a < 31) (hk : 0 ≤ k) : bit (bOr x (bShl 1 a)) k = (bit x k || decide (k = a)) := by
  have hp := pow_lt31 h0 h1
  rw [bShl_nat h0 h1, bOr_nat hx hx2 (Int.natCast_nonneg _) (cast_lt31 hp)]
  unfold bit
  rw [Int.toNat_natCast, Int.toNat_natCast, Nat.testBit_or, Nat.testBit_two_pow]
  congr 1
  by_cases e : k = a
  · subst e
    simp
  · have : ¬ a.toNat = k.toNat := by omega
    simp [e, this]
theorem bOr_rng {x y : Int} (hx : 0 ≤ x) (hx2 : x < 2147483648) (hy : 0 ≤ y) (hy2 : y < 2147483648) : 0 ≤ bOr x y ∧ bOr x y < 2147483648 := by
  rw [bOr_nat hx hx2 hy hy2]
  have := or_lt31 (a := x.toNat) (b := y.toNat) (by omega) (by omega)
  omega
theorem bShl_rng {k : Int} (h0 : 0 ≤ k) (h1 : k < 31) : 0 < bShl 1 k ∧ bShl 1 k < 2147483648 := by
  have hp := pow_lt31 h0 h1
  have hpos : 0 < 2 ^ k.toNat := Nat.two_pow_pos _
  rw [bShl_nat h0 h1]
  omega
theorem shr_bit {x k : Int} (hx : 0 ≤ x) (hx2 : x < 2147483648) (h0 : 0 ≤ k) (h1 : k < 31) : bAnd (bShr x k) 1 = if bit x k then 1 else 0 := by
  have hle : x.toNat / 2 ^ k.toNat ≤ x.toNat := Nat.div_le_self _ _
  rw [bShr_nat hx hx2 h0 h1, bAnd_nat (Int.natCast_nonneg _) (cast_lt31 (by omega)) (by decide) (by decide)]
  unfold bit
  rw [Int.toNat_natCast]
  show ((x.toNat / 2 ^ k.toNat &&& 1 : Nat) : Int) = _
  rw [Nat.and_one_is_mod, Nat.testBit_eq_decide_div_mod_eq]
  have : x.toNat / 2 ^ k.toNat % 2 = 0 ∨ x.toNat / 2 ^ k.toNat % 2 = 1 := by omega
  rcases this with h | h <;> simp [h]
theorem bit_0 (k : Int) : bit 0 k = false := by simp [bit]
def bUshr (x y : Int) : Int := ((Int32.ofInt x).toUInt32 >>> ((Int32.ofInt y).toUInt32 &&& Int32.toUInt32 31)).toInt32.toInt
theorem v_iushr {κ : Kx} {own : String} {cc : ByteArray} {nL : Nat} {ret : Option FieldType} {rm : Room} {dom : Nat → Bool} {M : Mem} {pc : Nat} {lv : List (Option PV)} {st : List PV} {K : Kont} (C : Cx κ own cc nL ret rm dom) {x y : Int} (hd : decode cc pc = .ok (.iushr, 1)) (k : V κ nL M (pc + 1) lv (.inl (bUshr x y) :: st) K) : V κ nL M pc lv (.inl y :: .inl x :: st) K := by
  refine ⟨?_, trivial⟩
  intro oM oL oS H locs ls hH hS hl
  have h := k.1 oM oL ⟨toInt_inR _, oS.2.2⟩ H locs ls hH hS hl
  refine lv_iushr C.1 C.2.1 hd (v := Int32.ofInt (bUshr x y)) ?_ h
  unfold bUshr
  rw [Int32.ofInt_toInt]
theorem v_ldcw {κ : Kx} {own : String} {cc : ByteArray} {nL : Nat} {ret : Option FieldType} {rm : Room} {dom : Nat → Bool} {M : Mem} {pc : Nat} {lv : List (Option PV)} {st : List PV} {K : Kont} (C : Cx κ own cc nL ret rm dom) {idx : Nat} {n : Int} (hd : decode cc pc = .ok (.ldc_w idx, 3)) (hc : Cond.constant own idx (Int32.ofInt n) ∈ tb) (ho : inR n) (k : V κ nL M (pc + 3) lv (.inl n :: st) K) : V κ nL M pc lv st K := by
  refine ⟨?_, trivial⟩
  intro oM oL oS H locs ls hH hS hl
  exact lv_ldcw C.1 C.2.1 C.2.2.2.1 (C.2.2.2.2.1 _ hc) hd (k.1 oM oL ⟨ho, oS⟩ H locs ls hH hS hl)
/-! ===== java/lang/Integer.bitCount ===== -/
abbrev rmJ6_bitCount_0f7a4 : Room := { frames := 0, cells := 0, slots := 0, locals := 0 }
abbrev argJ6_bitCount_0f7a4 (a : Int) : List PV := [.inl a]
abbrev CtJ6_bitCount_0f7a4 (sp : Int → Mem → Kont → Prop) : Prop := Ct yJ6_bitCount_0f7a4 cJ6_bitCount_0f7a4 1 (some .int) rmJ6_bitCount_0f7a4 domC argJ6_bitCount_0f7a4 (fun a => sp a)
theorem dJ6_bitCount_0f7a4_0 : decode cJ6_bitCount_0f7a4 0 = .ok (.iload_n 0, 1) := by decide +kernel
theorem dJ6_bitCount_0f7a4_1 : decode cJ6_bitCount_0f7a4 1 = .ok (.iload_n 0, 1) := by decide +kernel
theorem dJ6_bitCount_0f7a4_2 : decode cJ6_bitCount_0f7a4 2 = .ok (.iconst 1, 1) := by decide +kernel
theorem dJ6_bitCount_0f7a4_3 : decode cJ6_bitCount_0f7a4 3 = .ok (.iushr, 1) := by decide +kernel
theorem dJ6_bitCount_0f7a4_4 : decode cJ6_bitCount_0f7a4 4 = .ok (.ldc_w 265, 3) := by decide +kernel
theorem dJ6_bitCount_0f7a4_7 : decode cJ6_bitCount_0f7a4 7 = .ok (.iand, 1) := by decide +kernel
theorem dJ6_bitCount_0f7a4_8 : decode cJ6_bitCount_0f7a4 8 = .ok (.isub, 1) := by decide +kernel
theorem dJ6_bitCount_0f7a4_9 : decode cJ6_bitCount_0f7a4 9 = .ok (.istore_n 0, 1) := by decide +kernel
theorem dJ6_bitCount_0f7a4_10 : decode cJ6_bitCount_0f7a4 10 = .ok (.iload_n 0, 1) := by decide +kernel
theorem dJ6_bitCount_0f7a4_11 : decode cJ6_bitCount_0f7a4 11 = .ok (.ldc_w 266, 3) := by decide +kernel
theorem dJ6_bitCount_0f7a4_14 : decode cJ6_bitCount_0f7a4 14 = .ok (.iand, 1) := by decide +kernel
theorem dJ6_bitCount_0f7a4_15 : decode cJ6_bitCount_0f7a4 15 = .ok (.iload_n 0, 1) := by decide +kernel
theorem dJ6_bitCount_0f7a4_16 : decode cJ6_bitCount_0f7a4 16 = .ok (.iconst 2, 1) := by decide +kernel
theorem dJ6_bitCount_0f7a4_17 : decode cJ6_bitCount_0f7a4 17 = .ok (.iushr, 1) := by decide +kernel
theorem dJ6_bitCount_0f7a4_18 : decode cJ6_bitCount_0f7a4 18 = .ok (.ldc_w 266, 3) := by decide +kernel
theorem dJ6_bitCount_0f7a4_21 : decode cJ6_bitCount_0f7a4 21 = .ok (.iand, 1) := by decide +kernel
theorem dJ6_bitCount_0f7a4_22 : decode cJ6_bitCount_0f7a4 22 = .ok (.iadd, 1) := by decide +kernel
theorem dJ6_bitCount_0f7a4_23 : decode cJ6_bitCount_0f7a4 23 = .ok (.istore_n 0, 1) := by decide +kernel
theorem dJ6_bitCount_0f7a4_24 : decode cJ6_bitCount_0f7a4 24 = .ok (.iload_n 0, 1) := by decide +kernel
theorem dJ6_bitCount_0f7a4_25 : decode cJ6_bitCount_0f7a4 25 = .ok (.iload_n 0, 1) := by decide +kernel
theorem dJ6_bitCount_0f7a4_26 : decode cJ6_bitCount_0f7a4 26 = .ok (.iconst 4, 1) := by decide +kernel
theorem dJ6_bitCount_0f7a4_27 : decode cJ6_bitCount_0f7a4 27 = .ok (.iushr, 1) := by decide +kernel
theorem dJ6_bitCount_0f7a4_28 : decode cJ6_bitCount_0f7a4 28 = .ok (.iadd, 1) := by decide +kernel
theorem dJ6_bitCount_0f7a4_29 : decode cJ6_bitCount_0f7a4 29 = .ok (.ldc_w 267, 3) := by decide +kernel
theorem dJ6_bitCount_0f7a4_32 : decode cJ6_bitCount_0f7a4 32 = .ok (.iand, 1) := by decide +kernel
theorem dJ6_bitCount_0f7a4_33 : decode cJ6_bitCount_0f7a4 33 = .ok (.istore_n 0, 1) := by decide +kernel
theorem dJ6_bitCount_0f7a4_34 : decode cJ6_bitCount_0f7a4 34 = .ok (.iload_n 0, 1) := by decide +kernel
theorem dJ6_bitCount_0f7a4_35 : decode cJ6_bitCount_0f7a4 35 = .ok (.iload_n 0, 1) := by decide +kernel
theorem dJ6_bitCount_0f7a4_36 : decode cJ6_bitCount_0f7a4 36 = .ok (.bipush 8, 2) := by decide +kernel
theorem dJ6_bitCount_0f7a4_38 : decode cJ6_bitCount_0f7a4 38 = .ok (.iushr, 1) := by decide +kernel
theorem dJ6_bitCount_0f7a4_39 : decode cJ6_bitCount_0f7a4 39 = .ok (.iadd, 1) := by decide +kernel
theorem dJ6_bitCount_0f7a4_40 : decode cJ6_bitCount_0f7a4 40 = .ok (.istore_n 0, 1) := by decide +kernel
theorem dJ6_bitCount_0f7a4_41 : decode cJ6_bitCount_0f7a4 41 = .ok (.iload_n 0, 1) := by decide +kernel
theorem dJ6_bitCount_0f7a4_42 : decode cJ6_bitCount_0f7a4 42 = .ok (.iload_n 0, 1) := by decide +kernel
theorem dJ6_bitCount_0f7a4_43 : decode cJ6_bitCount_0f7a4 43 = .ok (.bipush 16, 2) := by decide +kernel
theorem dJ6_bitCount_0f7a4_45 : decode cJ6_bitCount_0f7a4 45 = .ok (.iushr, 1) := by decide +kernel
theorem dJ6_bitCount_0f7a4_46 : decode cJ6_bitCount_0f7a4 46 = .ok (.iadd, 1) := by decide +kernel
theorem dJ6_bitCount_0f7a4_47 : decode cJ6_bitCount_0f7a4 47 = .ok (.istore_n 0, 1) := by decide +kernel
theorem dJ6_bitCount_0f7a4_48 : decode cJ6_bitCount_0f7a4 48 = .ok (.iload_n 0, 1) := by decide +kernel
theorem dJ6_bitCount_0f7a4_49 : decode cJ6_bitCount_0f7a4 49 = .ok (.bipush 63, 2) := by decide +kernel
theorem dJ6_bitCount_0f7a4_51 : decode cJ6_bitCount_0f7a4 51 = .ok (.iand, 1) := by decide +kernel
theorem dJ6_bitCount_0f7a4_52 : decode cJ6_bitCount_0f7a4 52 = .ok (.ireturn, 1) := by decide +kernel
theorem csJ6_265 : Cond.constant RJ6 265 (Int32.ofInt (1431655765)) ∈ tb := (tb_mem (t_in3 (List.mem_of_getElem? (i := 198) (by decide +kernel))) (by decide +kernel))
theorem csJ6_266 : Cond.constant RJ6 266 (Int32.ofInt (858993459)) ∈ tb := (tb_mem (t_in3 (List.mem_of_getElem? (i := 199) (by decide +kernel))) (by decide +kernel))
theorem csJ6_267 : Cond.constant RJ6 267 (Int32.ofInt (252645135)) ∈ tb := (tb_mem (t_in3 (List.mem_of_getElem? (i := 200) (by decide +kernel))) (by decide +kernel))
set_option maxHeartbeats 4000000 in
set_option maxRecDepth 20000 in
theorem sgJ6_bitCount_0f7a4_0 {κ : Kx} {K : Kont} {M : Mem} (C : Cx κ RJ6 cJ6_bitCount_0f7a4 1 (some .int) rmJ6_bitCount_0f7a4 domC) (x0 : Int)
    (h :
    inR (x0 - (bAnd (bUshr x0 1) 1431655765)) ∧
    ∀ y0_9 : Int, y0_9 = x0 - (bAnd (bUshr x0 1) 1431655765) →
    inR ((bAnd y0_9 858993459) + (bAnd (bUshr y0_9 2) 858993459)) ∧
    ∀ y0_23 : Int, y0_23 = (bAnd y0_9 858993459) + (bAnd (bUshr y0_9 2) 858993459) →
    inR (y0_23 + (bUshr y0_23 4)) ∧
    ∀ y0_33 : Int, y0_33 = bAnd (y0_23 + (bUshr y0_23 4)) 252645135 →
    inR (y0_33 + (bUshr y0_33 8)) ∧
    ∀ y0_40 : Int, y0_40 = y0_33 + (bUshr y0_33 8) →
    inR (y0_40 + (bUshr y0_40 16)) ∧
    ∀ y0_47 : Int, y0_47 = y0_40 + (bUshr y0_40 16) →
    K (some (bAnd y0_47 63)) M) : V κ 1 M 0 [some (.inl x0)] [] K := by
  refine v_iload_n C dJ6_bitCount_0f7a4_0 rfl ?_
  refine v_iload_n C dJ6_bitCount_0f7a4_1 rfl ?_
  refine v_iconst C dJ6_bitCount_0f7a4_2 (by decide) ?_
  refine v_iushr C dJ6_bitCount_0f7a4_3 ?_
  refine v_ldcw C dJ6_bitCount_0f7a4_4 csJ6_265 (by decide) ?_
  refine v_iand C dJ6_bitCount_0f7a4_7 ?_
  refine v_isub C dJ6_bitCount_0f7a4_8 h.1 ?_
  replace h := h.2
  refine v_nm (fun y0_9 ey0_9 => ?_)
  replace h := h y0_9 ey0_9
  refine v_istore_n C dJ6_bitCount_0f7a4_9 (by decide) (Nat.le_of_ble_eq_true rfl) (lv' := [some (.inl y0_9)]) rfl ?_
  refine v_iload_n C dJ6_bitCount_0f7a4_10 rfl ?_
  refine v_ldcw C dJ6_bitCount_0f7a4_11 csJ6_266 (by decide) ?_
  refine v_iand C dJ6_bitCount_0f7a4_14 ?_
  refine v_iload_n C dJ6_bitCount_0f7a4_15 rfl ?_
  refine v_iconst C dJ6_bitCount_0f7a4_16 (by decide) ?_
  refine v_iushr C dJ6_bitCount_0f7a4_17 ?_
  refine v_ldcw C dJ6_bitCount_0f7a4_18 csJ6_266 (by decide) ?_
  refine v_iand C dJ6_bitCount_0f7a4_21 ?_
  refine v_iadd C dJ6_bitCount_0f7a4_22 h.1 ?_
  replace h := h.2
  refine v_nm (fun y0_23 ey0_23 => ?_)
  replace h := h y0_23 ey0_23
  refine v_istore_n C dJ6_bitCount_0f7a4_23 (by decide) (Nat.le_of_ble_eq_true rfl) (lv' := [some (.inl y0_23)]) rfl ?_
  refine v_iload_n C dJ6_bitCount_0f7a4_24 rfl ?_
  refine v_iload_n C dJ6_bitCount_0f7a4_25 rfl ?_
  refine v_iconst C dJ6_bitCount_0f7a4_26 (by decide) ?_
  refine v_iushr C dJ6_bitCount_0f7a4_27 ?_
  refine v_iadd C dJ6_bitCount_0f7a4_28 h.1 ?_
  replace h := h.2
  refine v_ldcw C dJ6_bitCount_0f7a4_29 csJ6_267 (by decide) ?_
  refine v_iand C dJ6_bitCount_0f7a4_32 ?_
  refine v_nm (fun y0_33 ey0_33 => ?_)
  replace h := h y0_33 ey0_33
  refine v_istore_n C dJ6_bitCount_0f7a4_33 (by decide) (Nat.le_of_ble_eq_true rfl) (lv' := [some (.inl y0_33)]) rfl ?_
  refine v_iload_n C dJ6_bitCount_0f7a4_34 rfl ?_
  refine v_iload_n C dJ6_bitCount_0f7a4_35 rfl ?_
  refine v_bipush C dJ6_bitCount_0f7a4_36 (by decide) (by decide) ?_
  refine v_iushr C dJ6_bitCount_0f7a4_38 ?_
  refine v_iadd C dJ6_bitCount_0f7a4_39 h.1 ?_
  replace h := h.2
  refine v_nm (fun y0_40 ey0_40 => ?_)
  replace h := h y0_40 ey0_40
  refine v_istore_n C dJ6_bitCount_0f7a4_40 (by decide) (Nat.le_of_ble_eq_true rfl) (lv' := [some (.inl y0_40)]) rfl ?_
  refine v_iload_n C dJ6_bitCount_0f7a4_41 rfl ?_
  refine v_iload_n C dJ6_bitCount_0f7a4_42 rfl ?_
  refine v_bipush C dJ6_bitCount_0f7a4_43 (by decide) (by decide) ?_
  refine v_iushr C dJ6_bitCount_0f7a4_45 ?_
  refine v_iadd C dJ6_bitCount_0f7a4_46 h.1 ?_
  replace h := h.2
  refine v_nm (fun y0_47 ey0_47 => ?_)
  replace h := h y0_47 ey0_47
  refine v_istore_n C dJ6_bitCount_0f7a4_47 (by decide) (Nat.le_of_ble_eq_true rfl) (lv' := [some (.inl y0_47)]) rfl ?_
  refine v_iload_n C dJ6_bitCount_0f7a4_48 rfl ?_
  refine v_bipush C dJ6_bitCount_0f7a4_49 (by decide) (by decide) ?_
  refine v_iand C dJ6_bitCount_0f7a4_51 ?_
  exact v_iret C dJ6_bitCount_0f7a4_52 h
/-- how many of the seven lowest bits -/
def popN (n : Nat) : Nat := (List.range 7).foldl (fun a k => a + (n.testBit k).toNat) 0
abbrev spJ6_bitCount_0f7a4 (x : Int) (M : Mem) (K : Kont) : Prop := (0 ≤ x ∧ x < 128) ∧ K (some (popN x.toNat : Int)) M
def bcA (x : Int) : Int := x - (bAnd (bUshr x 1) 1431655765)
def bcB (a : Int) : Int := (bAnd a 858993459) + (bAnd (bUshr a 2) 858993459)
def bcC (b : Int) : Int := b + (bUshr b 4)
def bcD (c : Int) : Int := (bAnd c 252645135) + (bUshr (bAnd c 252645135) 8)
def bcE (d : Int) : Int := d + (bUshr d 16)
theorem bc_key : ∀ n : Nat, n < 128 → inR (bcA n) ∧ inR (bcB (bcA n)) ∧ inR (bcC (bcB (bcA n))) ∧ inR (bcD (bcC (bcB (bcA n)))) ∧ inR (bcE (bcD (bcC (bcB (bcA n))))) ∧ bAnd (bcE (bcD (bcC (bcB (bcA n))))) 63 = (popN n : Int) := by decide +kernel
theorem ctJ6_bitCount_0f7a4 : CtJ6_bitCount_0f7a4 spJ6_bitCount_0f7a4 := by
  refine ct_of (by decide) dmC (fun _ => Nat.le_of_ble_eq_true rfl) ?_
  intro κ x M K C oM h
  dsimp only [spJ6_bitCount_0f7a4] at h
  obtain ⟨hx, hk⟩ := h
  have key := bc_key x.toNat (by omega)
  rw [oi_nat hx.1] at key
  refine sgJ6_bitCount_0f7a4_0 C x ⟨key.1, fun a ea => ?_⟩
  have ea' : a = bcA x := ea
  rw [← ea'] at key
  refine ⟨key.2.1, fun b eb => ?_⟩
  have eb' : b = bcB a := eb
  rw [← eb'] at key
  refine ⟨key.2.2.1, fun c ec => ?_⟩
  have ec' : c = bAnd (bcC b) 252645135 := ec
  subst ec'
  refine ⟨key.2.2.2.1, fun d ed => ?_⟩
  have ed' : d = bcD (bcC b) := ed
  rw [← ed'] at key
  refine ⟨key.2.2.2.2.1, fun e ee => ?_⟩
  have ee' : e = bcE d := ee
  rw [← ee'] at key
  rw [key.2.2.2.2.2]
  exact hk
/-! ===== the parts of a set, one behind the other ===== -/
def nxP (rest s : Nat) : Nat := ((s + (4294967296 - rest)) % 4294967296) &&& rest
def ltP (rest : Nat) : Nat → Nat → List Nat
  | 0, _ => []
  | n + 1, s => s :: ltP rest n (nxP rest s)
def sqP (rest : Nat) : Nat → Nat
  | 0 => 0
  | n + 1 => nxP rest (sqP rest n)
theorem parts_key : (List.range 128).all (fun rest => (List.range 128).all (fun s => (s &&& rest != s) || (ltP rest (2 ^ popN rest) 0).contains s)) = true := by decide +kernel
theorem ltP_mem (rest : Nat) : ∀ (n m s : Nat), s ∈ ltP rest n (sqP rest m) → ∃ k, m ≤ k ∧ k < m + n ∧ sqP rest k = s := by
  intro n
  induction n with
  | zero => intro m s h; simp [ltP] at h
  | succ n ih =>
    intro m s h
    rcases List.mem_cons.mp h with e | h'
    · exact ⟨m, Nat.le_refl _, by omega, e.symm⟩
    · obtain ⟨k, a, b, c⟩ := ih (m + 1) s h'
      exact ⟨k, by omega, by omega, c⟩
theorem parts_all {rest s : Nat} (hr : rest < 128) (hs : s &&& rest = s) : ∃ k, k < 2 ^ popN rest ∧ sqP rest k = s := by
  have hs2 : s < 128 := by
    have : s &&& rest ≤ rest := Nat.and_le_right
    omega
  have h1 := List.all_eq_true.mp parts_key rest (List.mem_range.mpr hr)
  have h2 := List.all_eq_true.mp h1 s (List.mem_range.mpr hs2)
  simp only [Bool.or_eq_true, bne_iff_ne, ne_eq, hs, not_true_eq_false, false_or] at h2
  have h3 : s ∈ ltP rest (2 ^ popN rest) 0 := by simpa using h2
  obtain ⟨k, a, b, c⟩ := ltP_mem rest (2 ^ popN rest) 0 s h3
  exact ⟨k, by omega, c⟩
theorem sqP_sub (rest : Nat) : ∀ k, sqP rest k &&& rest = sqP rest k := by
  intro k
  cases k with
  | zero => simp [sqP]
  | succ n =>
    show nxP rest (sqP rest n) &&& rest = nxP rest (sqP rest n)
    unfold nxP
    rw [Nat.and_assoc, Nat.and_self]
theorem bAnd_sub {a r : Nat} (ha : a ≤ 128) (hr : r < 128) : bAnd ((a : Int) - r) r = (nxP r a : Int) := by
  unfold bAnd
  have e : (Int32.ofInt ((a : Int) - r)).toBitVec.toNat = (a + (4294967296 - r)) % 4294967296 := by
    show (BitVec.ofInt 32 ((a : Int) - r)).toNat = _
    rw [BitVec.toNat_ofInt]
    omega
  have hle : nxP r a ≤ r := by unfold nxP; exact Nat.and_le_right
  refine toInt_nat ?_ (by omega)
  rw [Int32.toBitVec_and, BitVec.toNat_and, e]
  have e2 : (Int32.ofInt (r : Int)).toBitVec.toNat = r := by
    rw [oi_nI (Int.natCast_nonneg _), Int.toNat_natCast]
    exact pk_tn (by omega)
  rw [e2]
  rfl
theorem pop_le : ∀ n : Nat, n < 128 → popN n ≤ 7 := by decide +kernel
theorem bit_and {x y k : Int} (hx : 0 ≤ x) (hx2 : x < 2147483648) (hy : 0 ≤ y) (hy2 : y < 2147483648) : bit (bAnd x y) k = (bit x k && bit y k) := by
  rw [bAnd_nat hx hx2 hy hy2]
  unfold bit
  rw [Int.toNat_natCast, Nat.testBit_and]
theorem bAnd_le {x y : Int} (hx : 0 ≤ x) (hx2 : x < 2147483648) (hy : 0 ≤ y) (hy2 : y < 2147483648) : 0 ≤ bAnd x y ∧ bAnd x y ≤ y := by
  rw [bAnd_nat hx hx2 hy hy2]
  have : x.toNat &&& y.toNat ≤ y.toNat := Nat.and_le_right
  omega
theorem not_key : (List.range 128).all (fun a => (List.range 128).all (fun x => decide (bAnd (a : Int) (bXor (x : Int) (-1)) = ((a ^^^ (a &&& x) : Nat) : Int)))) = true := by decide +kernel
theorem and_not {a x : Int} (ha : 0 ≤ a) (ha2 : a < 128) (hx : 0 ≤ x) (hx2 : x < 128) : bAnd a (bXor x (-1)) = ((a.toNat ^^^ (a.toNat &&& x.toNat) : Nat) : Int) := by
  have h1 := List.all_eq_true.mp not_key a.toNat (List.mem_range.mpr (by omega))
  have h2 := List.all_eq_true.mp h1 x.toNat (List.mem_range.mpr (by omega))
  have h3 := of_decide_eq_true h2
  rw [oi_nat ha, oi_nat hx] at h3
  exact h3
theorem bit_not {a x k : Int} (ha : 0 ≤ a) (ha2 : a < 128) (hx : 0 ≤ x) (hx2 : x < 128) : bit (bAnd a (bXor x (-1))) k = (bit a k && !bit x k) := by
  rw [and_not ha ha2 hx hx2]
  unfold bit
  rw [Int.toNat_natCast, Nat.testBit_xor, Nat.testBit_and]
  cases a.toNat.testBit k.toNat <;> cases x.toNat.testBit k.toNat <;> rfl
theorem not_rng {a x : Int} (ha : 0 ≤ a) (ha2 : a < 128) (hx : 0 ≤ x) (hx2 : x < 128) : 0 ≤ bAnd a (bXor x (-1)) ∧ bAnd a (bXor x (-1)) < 128 := by
  rw [and_not ha ha2 hx hx2]
  have h1 : a.toNat &&& x.toNat < 2 ^ 7 := Nat.lt_of_le_of_lt Nat.and_le_left (by omega)
  have h2 := Nat.xor_lt_two_pow (x := a.toNat) (y := a.toNat &&& x.toNat) (n := 7) (by omega) h1
  omega
theorem bit_shl {a k : Int} (h0 : 0 ≤ a) (h1 : a < 31) (hk : 0 ≤ k) : bit (bShl 1 a) k = decide (k = a) := by
  rw [bShl_nat h0 h1]
  unfold bit
  rw [Int.toNat_natCast, Nat.testBit_two_pow]
  by_cases e : k = a
  · subst e; simp
  · have : ¬ a.toNat = k.toNat := by omega
    simp [e, this]
theorem bit_ext {x y : Int} (hx : 0 ≤ x) (hx2 : x < 128) (hy : 0 ≤ y) (hy2 : y < 128) (h : ∀ k, 0 ≤ k → k < 7 → bit x k = bit y k) : x = y := by
  have : x.toNat = y.toNat := by
    apply Nat.eq_of_testBit_eq
    intro i
    by_cases hi : i < 7
    · have := h i (by omega) (by omega)
      unfold bit at this
      rw [Int.toNat_natCast] at this
      exact this
    · rw [Nat.testBit_lt_two_pow (Nat.lt_of_lt_of_le (show x.toNat < 2 ^ 7 by omega) (Nat.pow_le_pow_right (by decide) (by omega))), Nat.testBit_lt_two_pow (Nat.lt_of_lt_of_le (show y.toNat < 2 ^ 7 by omega) (Nat.pow_le_pow_right (by decide) (by omega)))]
  omega
theorem add_key : (List.range 128).all (fun s => (List.range 7).all (fun q => (s.testBit q) || decide (s + 2 ^ q = s ||| 2 ^ q))) = true := by decide +kernel
theorem add_bit {s q : Int} (hs : 0 ≤ s) (hs2 : s < 128) (hq : 0 ≤ q) (hq2 : q < 7) (hb : bit s q = false) : s + bShl 1 q = bOr s (bShl 1 q) := by
  have h1 := List.all_eq_true.mp add_key s.toNat (List.mem_range.mpr (by omega))
  have h2 := List.all_eq_true.mp h1 q.toNat (List.mem_range.mpr (by omega))
  unfold bit at hb
  rw [hb, Bool.false_or] at h2
  have h3 := of_decide_eq_true h2
  have hp := pow_lt31 hq (show q < 31 by omega)
  rw [bShl_nat hq (by omega), bOr_nat hs (by omega) (Int.natCast_nonneg _) (cast_lt31 hp), Int.toNat_natCast, ← h3]
  rw [Int.natCast_add, oi_nat hs]
theorem shl_le7 {k : Int} (h0 : 0 ≤ k) (h1 : k ≤ 7) : 1 ≤ bShl 1 k ∧ bShl 1 k ≤ 128 := by
  have key : ∀ n : Nat, n < 8 → 1 ≤ bShl 1 (n : Int) ∧ bShl 1 (n : Int) ≤ 128 := by decide +kernel
  have := key k.toNat (by omega)
  rw [oi_nat h0] at this
  exact this
theorem shl_lt {k n : Int} (h0 : 0 ≤ k) (h1 : k < n) (h2 : n ≤ 7) : 2 * bShl 1 k ≤ bShl 1 n := by
  have key : ∀ m : Nat, m < 8 → ∀ j : Nat, j < m → 2 * bShl 1 (j : Int) ≤ bShl 1 (m : Int) := by decide +kernel
  have := key n.toNat (by omega) k.toNat (by omega)
  rw [oi_nat h0, oi_nat (by omega)] at this
  exact this
/-- below 2^n there are only bits below n -/
theorem bit_lt {x n k : Int} (hx : 0 ≤ x) (hn : 0 ≤ n) (hn2 : n ≤ 7) (hxn : x < bShl 1 n) (hk : n ≤ k) : bit x k = false := by
  unfold bit
  apply Nat.testBit_lt_two_pow
  have e : bShl 1 n = ((2 ^ n.toNat : Nat) : Int) := bShl_nat hn (by omega)
  have h1 : x.toNat < 2 ^ n.toNat := by
    have h2 : (x.toNat : Int) < ((2 ^ n.toNat : Nat) : Int) := by rw [← e, oi_nat hx]; exact hxn
    exact Int.ofNat_lt.mp h2
  exact Nat.lt_of_lt_of_le h1 (Nat.pow_le_pow_right (by decide) (by omega))
theorem lt_bit {x n : Int} (hx : 0 ≤ x) (hx2 : x < 128) (hn : 0 ≤ n) (hn2 : n ≤ 7) (h : ∀ k, n ≤ k → k < 7 → bit x k = false) : x < bShl 1 n := by
  rw [bShl_nat hn (by omega)]
  have : x.toNat < 2 ^ n.toNat := by
    apply Nat.lt_pow_two_of_testBit
    intro i hi
    by_cases h7 : i < 7
    · have := h i (by omega) (by omega)
      unfold bit at this
      rw [Int.toNat_natCast] at this
      exact this
    · exact Nat.testBit_lt_two_pow (Nat.lt_of_lt_of_le (show x.toNat < 2 ^ 7 by omega) (Nat.pow_le_pow_right (by decide) (by omega)))
  omega
end
section
/-! ===== a film, as a table of numbers: 0 ticks, 1 breath, 2 sounds, 3 pictures, 4 rates, 5 kind, 6 begin, 7 end of a sound, 8 tick, 9 early, 10 late, 11 versions, 12 need of a picture, 13 length, 14 worth of a version ===== -/
abbrev Film : Type := Nat → Int → Int → Int
def cFilm (M : Mem) (f : Int) : Film := fun t a b => match t with
  | 0 => M 5 f 0
  | 1 => M 5 f 1
  | 2 => M 5 f 3
  | 3 => M 5 f 7
  | 4 => M 6 f a
  | 5 => M 7 f a
  | 6 => M 8 f a
  | 7 => M 9 f a
  | 8 => M 11 (7 * f + a) 0
  | 9 => M 11 (7 * f + a) 1
  | 10 => M 11 (7 * f + a) 2
  | 11 => M 11 (7 * f + a) 4
  | 12 => M 11 (7 * f + a) 3
  | 13 => M 12 (7 * f + a) b
  | 14 => M 13 (7 * f + a) b
  | _ => 0
def WFp (F : Film) (p : Int) : Prop := (0 ≤ F 8 p 0 ∧ F 8 p 0 < F 0 0 0) ∧ (0 ≤ F 9 p 0 ∧ F 9 p 0 ≤ 20) ∧ (0 ≤ F 10 p 0 ∧ F 10 p 0 ≤ 20) ∧ (1 ≤ F 11 p 0 ∧ F 11 p 0 ≤ 3) ∧ (F 12 p 0 = -4 ∨ (0 ≤ F 12 p 0 ∧ F 12 p 0 < p)) ∧
  ∀ v, 0 ≤ v → v < F 11 p 0 → (1 ≤ F 13 p v ∧ F 13 p v ≤ 30) ∧ (1 ≤ F 14 p v ∧ F 14 p v ≤ 99)
def WFs (F : Film) (s : Int) : Prop := (0 ≤ F 5 s 0 ∧ F 5 s 0 ≤ 2) ∧ 0 ≤ F 6 s 0 ∧ F 6 s 0 ≤ F 7 s 0 ∧ F 7 s 0 ≤ F 0 0 0
def WFf (F : Film) : Prop := (0 ≤ F 0 0 0 ∧ F 0 0 0 ≤ 100) ∧ (0 ≤ F 1 0 0 ∧ F 1 0 0 ≤ 9) ∧ (0 ≤ F 2 0 0 ∧ F 2 0 0 ≤ 12) ∧ (0 ≤ F 3 0 0 ∧ F 3 0 0 ≤ 7) ∧ (∀ w, 0 ≤ w → w < 4 → 0 ≤ F 4 w 0 ∧ F 4 w 0 ≤ 9) ∧
  (∀ s, 0 ≤ s → s < F 2 0 0 → WFs F s) ∧ (∀ p, 0 ≤ p → p < F 3 0 0 → WFp F p)
/-- the reason why not by the film alone; S: how many ticks ahead of each have speech -/
def ownW (F : Film) (S : Int → Int) (p v t : Int) : Int :=
  if F 0 0 0 < t + F 13 p v then 1 else if t < F 8 p 0 - F 9 p 0 ∨ F 8 p 0 + F 10 p 0 < t then 2 else if S t < S (t + F 13 p v) then 3 else 0
def shiftW (F : Film) (p t : Int) : Int := if t - F 8 p 0 < 0 then -(t - F 8 p 0) * F 4 0 0 else (t - F 8 p 0) * F 4 1 0
/-- the gain; Q: what the ticks ahead of each cost together -/
def gainW (F : Film) (Q : Int → Int) (p v t : Int) : Int := F 14 p v - shiftW F p t - (Q (min (t + F 13 p v) (F 0 0 0)) - Q t)
/-- the sums of a track are small -/
def TrB (M : Mem) (tr : Int) : Prop := ∀ t, 0 ≤ t → t ≤ 100 → (0 ≤ M 16 tr t ∧ M 16 tr t ≤ 100) ∧ (0 ≤ M 17 tr t ∧ M 17 tr t ≤ 900)
theorem mul_rng {a b A B : Int} (h1 : 0 ≤ a) (h2 : a ≤ A) (h3 : 0 ≤ b) (h4 : b ≤ B) : 0 ≤ a * b ∧ a * b ≤ A * B :=
  ⟨Int.mul_nonneg h1 h3, Int.mul_le_mul h2 h4 h3 (Int.le_trans h1 h2)⟩
theorem shift_rng {F : Film} (h : WFf F) {p t : Int} (hp : 0 ≤ p) (hp2 : p < F 3 0 0) (ht : 0 ≤ t) (ht2 : t < F 0 0 0) : 0 ≤ shiftW F p t ∧ shiftW F p t ≤ 900 := by
  have hw := h.2.2.2.2.2.2 p hp hp2
  have h0 := h.1
  have r0 := h.2.2.2.2.1 0 (by decide) (by decide)
  have r1 := h.2.2.2.2.1 1 (by decide) (by decide)
  have h1 := hw.1
  unfold shiftW
  split
  · have := mul_rng (a := -(t - F 8 p 0)) (b := F 4 0 0) (A := 100) (B := 9) (by omega) (by omega) r0.1 r0.2
    omega
  · have := mul_rng (a := t - F 8 p 0) (b := F 4 1 0) (A := 100) (B := 9) (by omega) (by omega) r1.1 r1.2
    omega
theorem wf_p {F : Film} (h : WFf F) {p : Int} (hp : 0 ≤ p) (hp2 : p < F 3 0 0) : (0 ≤ F 0 0 0 ∧ F 0 0 0 ≤ 100) ∧ p < 7 ∧ (0 ≤ F 8 p 0 ∧ F 8 p 0 < F 0 0 0) ∧ (0 ≤ F 9 p 0 ∧ F 9 p 0 ≤ 20) ∧ (0 ≤ F 10 p 0 ∧ F 10 p 0 ≤ 20) ∧ (1 ≤ F 11 p 0 ∧ F 11 p 0 ≤ 3) ∧ (F 12 p 0 = -4 ∨ (0 ≤ F 12 p 0 ∧ F 12 p 0 < p)) := by
  have hw := h.2.2.2.2.2.2 p hp hp2
  have h2 := h.2.2.2.1
  exact ⟨h.1, by omega, hw.1, hw.2.1, hw.2.2.1, hw.2.2.2.1, hw.2.2.2.2.1⟩
theorem wf_pv {F : Film} (h : WFf F) {p v : Int} (hp : 0 ≤ p) (hp2 : p < F 3 0 0) (hv : 0 ≤ v) (hv2 : v < F 11 p 0) : (0 ≤ F 0 0 0 ∧ F 0 0 0 ≤ 100) ∧ p < 7 ∧ v < 3 ∧ (0 ≤ F 8 p 0 ∧ F 8 p 0 < F 0 0 0) ∧ (0 ≤ F 9 p 0 ∧ F 9 p 0 ≤ 20) ∧ (0 ≤ F 10 p 0 ∧ F 10 p 0 ≤ 20) ∧ (1 ≤ F 13 p v ∧ F 13 p v ≤ 30) ∧ (1 ≤ F 14 p v ∧ F 14 p v ≤ 99) := by
  have hw := h.2.2.2.2.2.2 p hp hp2
  have h2 := h.2.2.2.1
  have h3 := hw.2.2.2.1
  have h4 := hw.2.2.2.2.2 v hv hv2
  exact ⟨h.1, by omega, by omega, hw.1, hw.2.1, hw.2.2.1, h4.1, h4.2⟩
end
section
/-! ===== what sounds at each tick ===== -/
def mkN (F : Film) (t : Int) : Nat → Int
  | 0 => 0
  | n + 1 => if F 6 n 0 ≤ t ∧ t < F 7 n 0 then bOr (mkN F t n) (bShl 1 (F 5 n 0)) else mkN F t n
def mkF (F : Film) (t : Int) : Int := mkN F t (F 2 0 0).toNat
def spc (F : Film) (t : Int) : Int := if bAnd (mkF F t) 1 = 0 then 0 else 1
def cst (F : Film) (t : Int) : Int := if bAnd (mkF F t) 2 ≠ 0 then F 4 2 0 else if bAnd (mkF F t) 4 ≠ 0 then F 4 3 0 else 0
def sumN (f : Int → Int) : Nat → Int
  | 0 => 0
  | n + 1 => sumN f n + f n
def spb (F : Film) (t : Int) : Int := sumN (spc F) t.toNat
def csb (F : Film) (t : Int) : Int := sumN (cst F) t.toNat
/-- the film with a sound ended earlier -/
def shF (F : Film) (s n : Int) : Film := fun t a b => if t = 7 ∧ a = s ∧ 0 ≤ s then F 7 s b - n else F t a b
theorem shF_no (F : Film) (n : Int) : shF F (-1) n = F := by
  funext t a b
  unfold shF
  rw [if_neg (by omega)]
theorem toNat_s {t : Int} (h : 0 ≤ t) : (t + 1).toNat = t.toNat + 1 := by omega
theorem spb_s (F : Film) {t : Int} (h : 0 ≤ t) : spb F (t + 1) = spb F t + spc F t := by
  unfold spb
  rw [toNat_s h]
  show sumN _ t.toNat + spc F (t.toNat : Int) = _
  rw [oi_nat h]
theorem csb_s (F : Film) {t : Int} (h : 0 ≤ t) : csb F (t + 1) = csb F t + cst F t := by
  unfold csb
  rw [toNat_s h]
  show sumN _ t.toNat + cst F (t.toNat : Int) = _
  rw [oi_nat h]
theorem spb_0 (F : Film) : spb F 0 = 0 := rfl
theorem csb_0 (F : Film) : csb F 0 = 0 := rfl
theorem sum_rng {f : Int → Int} {B : Int} (h : ∀ t, 0 ≤ f t ∧ f t ≤ B) : ∀ n : Nat, 0 ≤ sumN f n ∧ sumN f n ≤ B * n := by
  intro n
  induction n with
  | zero => simp [sumN]
  | succ n ih =>
    have := h n
    simp only [sumN]
    have e : B * ((n + 1 : Nat) : Int) = B * n + B := by rw [Int.natCast_succ, Int.mul_add, Int.mul_one]
    rw [e]
    omega
theorem spc_rng (F : Film) (t : Int) : 0 ≤ spc F t ∧ spc F t ≤ 1 := by
  unfold spc
  split <;> omega
theorem cst_rng {F : Film} (h : WFf F) (t : Int) : 0 ≤ cst F t ∧ cst F t ≤ 9 := by
  have r2 := h.2.2.2.2.1 2 (by decide) (by decide)
  have r3 := h.2.2.2.2.1 3 (by decide) (by decide)
  unfold cst
  split
  · omega
  · split <;> omega
theorem spb_rng (F : Film) {t : Int} (h0 : 0 ≤ t) (h1 : t ≤ 100) : 0 ≤ spb F t ∧ spb F t ≤ 100 := by
  have := sum_rng (spc_rng F) t.toNat
  unfold spb
  omega
theorem csb_rng {F : Film} (h : WFf F) {t : Int} (h0 : 0 ≤ t) (h1 : t ≤ 100) : 0 ≤ csb F t ∧ csb F t ≤ 900 := by
  have := sum_rng (cst_rng h) t.toNat
  unfold csb
  omega
/-- a track has what the film's sounds say -/
def TrK (M : Mem) (tr : Int) (F : Film) : Prop := (∀ t, 0 ≤ t → t < 100 → M 15 tr t = mkF F t) ∧ (∀ t, 0 ≤ t → t ≤ F 0 0 0 → M 16 tr t = spb F t ∧ M 17 tr t = csb F t)
/-- nothing but a track has changed -/
def AgT (M M' : Mem) (tr : Int) : Prop := ∀ r i, ¬ ((r = 15 ∨ r = 16 ∨ r = 17) ∧ i = tr) → M' r i = M r i
theorem AgT.rf {M : Mem} {tr : Int} : AgT M M tr := fun _ _ _ => rfl
theorem AgT.up {M M' : Mem} {tr : Int} (h : AgT M M' tr) {r : Nat} (hr : r = 15 ∨ r = 16 ∨ r = 17) (j v : Int) : AgT M (up3 M' r tr j v) tr := by
  intro r' i' hn
  rw [← h r' i' hn]
  funext j'
  exact if_neg (fun q => hn ⟨by rw [q.1]; exact hr, q.2.1⟩)
theorem cFilm_eq {M M' : Mem} (h : ∀ r, 5 ≤ r → r ≤ 13 → M' r = M r) (f : Int) : cFilm M' f = cFilm M f := by
  funext t a b
  unfold cFilm
  split <;> first | rfl | (rw [h _ (by decide) (by decide)])
theorem AgT.film {M M' : Mem} {tr : Int} (h : AgT M M' tr) (f : Int) : cFilm M' f = cFilm M f := by
  refine cFilm_eq (fun r h1 h2 => ?_) f
  funext i
  exact h r i (by omega)
end
section
/-! ===== plans: ver p the version in which p is placed (-4: it is not), sta p at which tick ===== -/
def C4 (F : Film) (ver sta : Int → Int) (p v t : Int) : Prop := ∃ q, 0 ≤ q ∧ q < F 3 0 0 ∧ q ≠ p ∧ ver q ≠ -4 ∧ sta q - (t + F 13 p v) < F 1 0 0 ∧ t - (sta q + F 13 q (ver q)) < F 1 0 0
def C5 (F : Film) (ver sta : Int → Int) (p t : Int) : Prop := F 12 p 0 ≠ -4 ∧ (ver (F 12 p 0) = -4 ∨ t < sta (F 12 p 0) + F 13 (F 12 p 0) (ver (F 12 p 0)))
def C6 (F : Film) (ver sta : Int → Int) (p v t : Int) : Prop := ∃ q, 0 ≤ q ∧ q < F 3 0 0 ∧ F 12 q 0 = p ∧ ver q ≠ -4 ∧ sta q < t + F 13 p v
noncomputable def whyB (F : Film) (ver sta : Int → Int) (p v t : Int) : Int :=
  @ite Int (C4 F ver sta p v t) (Classical.propDecidable _) 4 (@ite Int (C5 F ver sta p t) (Classical.propDecidable _) 5 (@ite Int (C6 F ver sta p v t) (Classical.propDecidable _) 6 0))
noncomputable def whyW (F : Film) (S ver sta : Int → Int) (p v t : Int) : Int := if ownW F S p v t = 0 then whyB F ver sta p v t else ownW F S p v t
theorem whyB_4 {F : Film} {ver sta : Int → Int} {p v t : Int} (h : C4 F ver sta p v t) : whyB F ver sta p v t = 4 := if_pos h
theorem whyB_5 {F : Film} {ver sta : Int → Int} {p v t : Int} (h4 : ¬ C4 F ver sta p v t) (h : C5 F ver sta p t) : whyB F ver sta p v t = 5 := (if_neg h4).trans (if_pos h)
theorem whyB_6 {F : Film} {ver sta : Int → Int} {p v t : Int} (h4 : ¬ C4 F ver sta p v t) (h5 : ¬ C5 F ver sta p t) (h : C6 F ver sta p v t) : whyB F ver sta p v t = 6 := (if_neg h4).trans ((if_neg h5).trans (if_pos h))
theorem whyB_0 {F : Film} {ver sta : Int → Int} {p v t : Int} (h4 : ¬ C4 F ver sta p v t) (h5 : ¬ C5 F ver sta p t) (h : ¬ C6 F ver sta p v t) : whyB F ver sta p v t = 0 := (if_neg h4).trans ((if_neg h5).trans (if_neg h))
/-- each picture is placed in a version that it has, within the film, or not at all -/
def PlK (F : Film) (ver sta : Int → Int) : Prop := ∀ q, 0 ≤ q → q < 7 → (ver q = -4 ∧ sta q = -4) ∨ (q < F 3 0 0 ∧ (0 ≤ ver q ∧ ver q < F 11 q 0) ∧ 0 ≤ sta q ∧ sta q + F 13 q (ver q) ≤ F 0 0 0)
theorem PlK.at {F : Film} {ver sta : Int → Int} (h : PlK F ver sta) {q : Int} (h0 : 0 ≤ q) (h1 : q < 7) (hv : ver q ≠ -4) : q < F 3 0 0 ∧ (0 ≤ ver q ∧ ver q < F 11 q 0) ∧ 0 ≤ sta q ∧ sta q + F 13 q (ver q) ≤ F 0 0 0 := by
  rcases h q h0 h1 with a | a
  · exact absurd a.1 hv
  · exact a
def szN (ver : Int → Int) : Nat → Int := sumN (fun p => if ver p = -4 then 0 else 1)
def vaN (F : Film) (Q ver sta : Int → Int) : Nat → Int := sumN (fun p => if ver p = -4 then 0 else gainW F Q p (ver p) (sta p))
def tkN (F : Film) (ver sta : Int → Int) (a b : Int) : Nat → Int := sumN (fun p => if ver p = -4 then 0 else max 0 (min (sta p + F 13 p (ver p)) b - max (sta p) a))
theorem sumN_s (f : Int → Int) {t : Int} (h : 0 ≤ t) : sumN f (t + 1).toNat = sumN f t.toNat + f t := by
  rw [toNat_s h]
  show _ + f (t.toNat : Int) = _
  rw [oi_nat h]
theorem sum_abs {f : Int → Int} {B : Int} : ∀ n : Nat, (∀ t : Int, 0 ≤ t → t < n → -B ≤ f t ∧ f t ≤ B) → -B * n ≤ sumN f n ∧ sumN f n ≤ B * n := by
  intro n
  induction n with
  | zero => intro _; simp [sumN]
  | succ n ih =>
    intro h
    have h1 := ih (fun t a b => h t a (by omega))
    have h2 := h n (by omega) (by omega)
    simp only [sumN]
    have e : B * ((n + 1 : Nat) : Int) = B * n + B := by rw [Int.natCast_succ, Int.mul_add, Int.mul_one]
    have e2 : -B * ((n + 1 : Nat) : Int) = -B * n + -B := by rw [Int.natCast_succ, Int.mul_add, Int.mul_one]
    rw [e, e2]
    omega
/-- the lowest placed picture that has a reason why not, from p on; -4: none -/
noncomputable def lowF (F : Film) (S ver sta : Int → Int) : Nat → Int → Int
  | 0, _ => -4
  | n + 1, p => if ver p ≠ -4 ∧ whyW F S ver sta p (ver p) (sta p) ≠ 0 then p else lowF F S ver sta n (p + 1)
end
section
/-! ===== plans that are the same on the seven pictures ===== -/
def PlEq (ver sta ver' sta' : Int → Int) : Prop := ∀ q, 0 ≤ q → q < 7 → ver q = ver' q ∧ sta q = sta' q
theorem PlEq.rf {ver sta : Int → Int} : PlEq ver sta ver sta := fun _ _ _ => ⟨rfl, rfl⟩
theorem PlEq.sy {ver sta ver' sta' : Int → Int} (h : PlEq ver sta ver' sta') : PlEq ver' sta' ver sta := fun q a b => ⟨(h q a b).1.symm, (h q a b).2.symm⟩
theorem PlEq.tr {ver sta ver' sta' v2 s2 : Int → Int} (h : PlEq ver sta ver' sta') (h2 : PlEq ver' sta' v2 s2) : PlEq ver sta v2 s2 := fun q a b => ⟨(h q a b).1.trans (h2 q a b).1, (h q a b).2.trans (h2 q a b).2⟩
theorem PlK_eq {F : Film} {ver sta ver' sta' : Int → Int} (h : PlEq ver sta ver' sta') (hk : PlK F ver sta) : PlK F ver' sta' := by
  intro q a b
  have := hk q a b
  rw [(h q a b).1, (h q a b).2] at this
  exact this
theorem C4_imp {F : Film} (hf : WFf F) {ver sta ver' sta' : Int → Int} (h : PlEq ver sta ver' sta') {p v t : Int} (hc : C4 F ver sta p v t) : C4 F ver' sta' p v t := by
  obtain ⟨q, a, b, c⟩ := hc
  have := hf.2.2.2.1
  have e := h q a (by omega)
  rw [e.1, e.2] at c
  exact ⟨q, a, b, c⟩
theorem C6_imp {F : Film} (hf : WFf F) {ver sta ver' sta' : Int → Int} (h : PlEq ver sta ver' sta') {p v t : Int} (hc : C6 F ver sta p v t) : C6 F ver' sta' p v t := by
  obtain ⟨q, a, b, c⟩ := hc
  have := hf.2.2.2.1
  have e := h q a (by omega)
  rw [e.1, e.2] at c
  exact ⟨q, a, b, c⟩
theorem C5_imp {F : Film} (hf : WFf F) {ver sta ver' sta' : Int → Int} (h : PlEq ver sta ver' sta') {p t : Int} (hp : 0 ≤ p) (hp2 : p < F 3 0 0) (hc : C5 F ver sta p t) : C5 F ver' sta' p t := by
  obtain ⟨a, b⟩ := hc
  have w := wf_p hf hp hp2
  have e := h (F 12 p 0) (by omega) (by omega)
  rw [e.1, e.2] at b
  exact ⟨a, b⟩
theorem whyB_eq {F : Film} (hf : WFf F) {ver sta ver' sta' : Int → Int} (h : PlEq ver sta ver' sta') {p v t : Int} (hp : 0 ≤ p) (hp2 : p < F 3 0 0) : whyB F ver sta p v t = whyB F ver' sta' p v t := by
  by_cases h4 : C4 F ver sta p v t
  · rw [whyB_4 h4, whyB_4 (C4_imp hf h h4)]
  · have h4' : ¬ C4 F ver' sta' p v t := fun z => h4 (C4_imp hf h.sy z)
    by_cases h5 : C5 F ver sta p t
    · rw [whyB_5 h4 h5, whyB_5 h4' (C5_imp hf h hp hp2 h5)]
    · have h5' : ¬ C5 F ver' sta' p t := fun z => h5 (C5_imp hf h.sy hp hp2 z)
      by_cases h6 : C6 F ver sta p v t
      · rw [whyB_6 h4 h5 h6, whyB_6 h4' h5' (C6_imp hf h h6)]
      · rw [whyB_0 h4 h5 h6, whyB_0 h4' h5' (fun z => h6 (C6_imp hf h.sy z))]
theorem whyW_eq {F : Film} (hf : WFf F) (S : Int → Int) {ver sta ver' sta' : Int → Int} (h : PlEq ver sta ver' sta') {p v t : Int} (hp : 0 ≤ p) (hp2 : p < F 3 0 0) : whyW F S ver sta p v t = whyW F S ver' sta' p v t := by
  unfold whyW
  rw [whyB_eq hf h hp hp2]
/-! ===== the plan that takes the worthiest first: what is found: worth, gain, picture, version, tick ===== -/
abbrev gSt : Type := Int × Int × Int × Int × Int
def offS (F : Film) (Q : Int → Int) (p v t : Int) (s : gSt) : gSt := if s.1 < F 14 p v ∨ (F 14 p v = s.1 ∧ s.2.1 < gainW F Q p v t) then (F 14 p v, gainW F Q p v t, p, v, t) else s
noncomputable def grO (F : Film) (S Q ver sta : Int → Int) (p v t : Int) (s : gSt) : gSt := if whyW F S ver sta p v t = 0 then offS F Q p v t s else s
noncomputable def grT (F : Film) (S Q ver sta : Int → Int) (p v : Int) : Nat → gSt → gSt
  | 0, s => s
  | n + 1, s => grO F S Q ver sta p v n (grT F S Q ver sta p v n s)
noncomputable def grV (F : Film) (S Q ver sta : Int → Int) (pz : Int → Bool) (p : Int) : Nat → gSt → gSt
  | 0, s => s
  | n + 1, s => if pz (p * 3 + n) then grV F S Q ver sta pz p n s else grT F S Q ver sta p n (F 0 0 0).toNat (grV F S Q ver sta pz p n s)
noncomputable def grP (F : Film) (S Q ver sta : Int → Int) (pz : Int → Bool) : Nat → gSt
  | 0 => (0, 0, 0, 0, 0)
  | n + 1 => if ver n = -4 then grV F S Q ver sta pz n (F 11 n 0).toNat (grP F S Q ver sta pz n) else grP F S Q ver sta pz n
def setP (f : Int → Int) (p v : Int) : Int → Int := fun q => if q = p then v else f q
def setB (f : Int → Bool) (p : Int) : Int → Bool := fun q => f q || decide (q = p)
noncomputable def grG (F : Film) (S Q : Int → Int) : Nat → (Int → Int) → (Int → Int) → (Int → Bool) → (Int → Int) × (Int → Int)
  | 0, ver, sta, _ => (ver, sta)
  | n + 1, ver, sta, pz =>
    if (grP F S Q ver sta pz (F 3 0 0).toNat).1 = 0 then (ver, sta)
    else if (grP F S Q ver sta pz (F 3 0 0).toNat).2.1 ≤ 0 then grG F S Q n ver sta (setB pz ((grP F S Q ver sta pz (F 3 0 0).toNat).2.2.1 * 3 + (grP F S Q ver sta pz (F 3 0 0).toNat).2.2.2.1))
    else grG F S Q n (setP ver (grP F S Q ver sta pz (F 3 0 0).toNat).2.2.1 (grP F S Q ver sta pz (F 3 0 0).toNat).2.2.2.1) (setP sta (grP F S Q ver sta pz (F 3 0 0).toNat).2.2.1 (grP F S Q ver sta pz (F 3 0 0).toNat).2.2.2.2) pz
theorem grT_s (F : Film) (S Q ver sta : Int → Int) (p v : Int) {t : Int} (h : 0 ≤ t) (s : gSt) : grT F S Q ver sta p v (t + 1).toNat s = grO F S Q ver sta p v t (grT F S Q ver sta p v t.toNat s) := by
  rw [toNat_s h]
  show grO F S Q ver sta p v (t.toNat : Int) _ = _
  rw [oi_nat h]
theorem why_out {F : Film} {S ver sta : Int → Int} {p v t : Int} (h : t < F 8 p 0 - F 9 p 0 ∨ F 8 p 0 + F 10 p 0 < t) : whyW F S ver sta p v t ≠ 0 := by
  have : ownW F S p v t ≠ 0 := by
    unfold ownW
    by_cases c : F 0 0 0 < t + F 13 p v
    · rw [if_pos c]
      decide
    · rw [if_neg c, if_pos h]
      decide
  unfold whyW
  rw [if_neg this]
  exact this
theorem grT_same {F : Film} {S Q ver sta : Int → Int} {p v : Int} : ∀ (n m : Nat) (s : gSt), (∀ t : Int, n ≤ t → t < m → whyW F S ver sta p v t ≠ 0) → n ≤ m → grT F S Q ver sta p v m s = grT F S Q ver sta p v n s := by
  intro n m
  induction m with
  | zero =>
    intro s _ h
    have : n = 0 := by omega
    rw [this]
  | succ m ih =>
    intro s h hn
    by_cases e : n = m + 1
    · rw [e]
    · show grO F S Q ver sta p v m (grT F S Q ver sta p v m s) = _
      unfold grO
      rw [if_neg (h m (by omega) (by omega))]
      exact ih s (fun t a b => h t a (by omega)) (by omega)
theorem grT_low {F : Film} {S Q ver sta : Int → Int} {p v : Int} : ∀ (n : Nat) (s : gSt), F 14 p v < s.1 → grT F S Q ver sta p v n s = s := by
  intro n
  induction n with
  | zero => intro s _; rfl
  | succ n ih =>
    intro s h
    show grO F S Q ver sta p v n (grT F S Q ver sta p v n s) = _
    rw [ih s h]
    unfold grO
    split
    · unfold offS
      rw [if_neg (by omega)]
    · rfl
/-- what is found is open, and of this worth and gain -/
def grOk (F : Film) (S Q ver sta : Int → Int) (pz : Int → Bool) (s : gSt) : Prop := s = (0, 0, 0, 0, 0) ∨
  ((0 ≤ s.2.2.1 ∧ s.2.2.1 < F 3 0 0) ∧ ver s.2.2.1 = -4 ∧ (0 ≤ s.2.2.2.1 ∧ s.2.2.2.1 < F 11 s.2.2.1 0) ∧ pz (s.2.2.1 * 3 + s.2.2.2.1) = false ∧ (0 ≤ s.2.2.2.2 ∧ s.2.2.2.2 < F 0 0 0) ∧ whyW F S ver sta s.2.2.1 s.2.2.2.1 s.2.2.2.2 = 0 ∧ s.1 = F 14 s.2.2.1 s.2.2.2.1 ∧ s.2.1 = gainW F Q s.2.2.1 s.2.2.2.1 s.2.2.2.2)
theorem grT_ok {F : Film} {S Q ver sta : Int → Int} {pz : Int → Bool} {p v : Int} (hp : 0 ≤ p) (hp2 : p < F 3 0 0) (hver : ver p = -4) (hv : 0 ≤ v) (hv2 : v < F 11 p 0) (hz : pz (p * 3 + v) = false) : ∀ (n : Nat) (s : gSt), (n : Int) ≤ F 0 0 0 → grOk F S Q ver sta pz s → grOk F S Q ver sta pz (grT F S Q ver sta p v n s) := by
  intro n
  induction n with
  | zero => intro s _ h; exact h
  | succ n ih =>
    intro s hn h
    have h1 := ih s (by omega) h
    show grOk F S Q ver sta pz (grO F S Q ver sta p v n (grT F S Q ver sta p v n s))
    unfold grO offS
    split
    · rename_i hw
      split
      · exact Or.inr ⟨⟨hp, hp2⟩, hver, ⟨hv, hv2⟩, hz, ⟨by show (0 : Int) ≤ n; omega, by show (n : Int) < _; omega⟩, hw, rfl, rfl⟩
      · exact h1
    · exact h1
theorem grV_ok {F : Film} {S Q ver sta : Int → Int} {pz : Int → Bool} {p : Int} (hT : 0 ≤ F 0 0 0) (hp : 0 ≤ p) (hp2 : p < F 3 0 0) (hver : ver p = -4) : ∀ (n : Nat) (s : gSt), (n : Int) ≤ F 11 p 0 → grOk F S Q ver sta pz s → grOk F S Q ver sta pz (grV F S Q ver sta pz p n s) := by
  intro n
  induction n with
  | zero => intro s _ h; exact h
  | succ n ih =>
    intro s hn h
    have h1 := ih s (by omega) h
    unfold grV
    split
    · exact h1
    · rename_i hz
      exact grT_ok hp hp2 hver (by omega) (by omega) (by simpa using hz) _ _ (by omega) h1
theorem grP_ok {F : Film} (hf : WFf F) {S Q ver sta : Int → Int} {pz : Int → Bool} : ∀ (n : Nat), (n : Int) ≤ F 3 0 0 → grOk F S Q ver sta pz (grP F S Q ver sta pz n) := by
  intro n
  induction n with
  | zero => intro _; exact Or.inl rfl
  | succ n ih =>
    intro hn
    have h1 := ih (by omega)
    unfold grP
    have w := wf_p hf (p := n) (by omega) (by omega)
    split
    · rename_i hv
      exact grV_ok w.1.1 (by omega) (by omega) hv _ _ (by omega) h1
    · exact h1
theorem why_own {F : Film} {S ver sta : Int → Int} {p v t : Int} (h : whyW F S ver sta p v t = 0) : ownW F S p v t = 0 := by
  unfold whyW at h
  by_cases c : ownW F S p v t = 0
  · exact c
  · rw [if_neg c] at h
    exact absurd h c
theorem own_end {F : Film} {S : Int → Int} {p v t : Int} (h : ownW F S p v t = 0) : t + F 13 p v ≤ F 0 0 0 ∧ F 8 p 0 - F 9 p 0 ≤ t ∧ t ≤ F 8 p 0 + F 10 p 0 ∧ ¬ S t < S (t + F 13 p v) := by
  unfold ownW at h
  by_cases c : F 0 0 0 < t + F 13 p v
  · rw [if_pos c] at h
    exact absurd h (by decide)
  · rw [if_neg c] at h
    by_cases d : t < F 8 p 0 - F 9 p 0 ∨ F 8 p 0 + F 10 p 0 < t
    · rw [if_pos d] at h
      exact absurd h (by decide)
    · rw [if_neg d] at h
      by_cases e : S t < S (t + F 13 p v)
      · rw [if_pos e] at h
        exact absurd h (by decide)
      · exact ⟨by omega, by omega, by omega, e⟩
theorem PlK_put {F : Film} {ver sta : Int → Int} (h : PlK F ver sta) {p v t : Int} (hp2 : p < F 3 0 0) (hv : 0 ≤ v ∧ v < F 11 p 0) (ht : 0 ≤ t) (he : t + F 13 p v ≤ F 0 0 0) : PlK F (setP ver p v) (setP sta p t) := by
  intro q a b
  unfold setP
  by_cases e : q = p
  · rw [if_pos e, if_pos e, e]
    exact Or.inr ⟨hp2, hv, ht, he⟩
  · rw [if_neg e, if_neg e]
    exact h q a b
theorem grT_eq {F : Film} (hf : WFf F) (S Q : Int → Int) {ver sta ver' sta' : Int → Int} (h : PlEq ver sta ver' sta') {p v : Int} (hp : 0 ≤ p) (hp2 : p < F 3 0 0) : ∀ (n : Nat) (s : gSt), grT F S Q ver sta p v n s = grT F S Q ver' sta' p v n s := by
  intro n
  induction n with
  | zero => intro s; rfl
  | succ n ih =>
    intro s
    show grO F S Q ver sta p v n _ = grO F S Q ver' sta' p v n _
    unfold grO
    rw [ih s, whyW_eq hf S h hp hp2]
theorem grV_eq {F : Film} (hf : WFf F) (S Q : Int → Int) {ver sta ver' sta' : Int → Int} (h : PlEq ver sta ver' sta') {pz pz' : Int → Bool} (hz : ∀ k, 0 ≤ k → k < 21 → pz k = pz' k) {p : Int} (hp : 0 ≤ p) (hp2 : p < F 3 0 0) : ∀ (n : Nat) (s : gSt), (n : Int) ≤ F 11 p 0 → grV F S Q ver sta pz p n s = grV F S Q ver' sta' pz' p n s := by
  intro n
  have w := wf_p hf hp hp2
  induction n with
  | zero => intro s _; rfl
  | succ n ih =>
    intro s hn
    unfold grV
    rw [ih s (by omega), hz (p * 3 + n) (by omega) (by omega), grT_eq hf S Q h hp hp2]
theorem grP_eq {F : Film} (hf : WFf F) (S Q : Int → Int) {ver sta ver' sta' : Int → Int} (h : PlEq ver sta ver' sta') {pz pz' : Int → Bool} (hz : ∀ k, 0 ≤ k → k < 21 → pz k = pz' k) : ∀ (n : Nat), (n : Int) ≤ F 3 0 0 → grP F S Q ver sta pz n = grP F S Q ver' sta' pz' n := by
  intro n
  have w := hf.2.2.2.1
  induction n with
  | zero => intro _; rfl
  | succ n ih =>
    intro hn
    have w2 := wf_p hf (p := n) (by omega) (by omega)
    unfold grP
    rw [ih (by omega), (h n (by omega) (by omega)).1, grV_eq hf S Q h hz (by omega) (by omega) _ _ (by omega)]
theorem PlEq.put {ver sta ver' sta' : Int → Int} (h : PlEq ver sta ver' sta') (p v t : Int) : PlEq (setP ver p v) (setP sta p t) (setP ver' p v) (setP sta' p t) := by
  intro q a b
  unfold setP
  by_cases e : q = p
  · simp [e]
  · rw [if_neg e, if_neg e, if_neg e, if_neg e]
    exact h q a b
theorem grG_eq {F : Film} (hf : WFf F) (S Q : Int → Int) : ∀ (n : Nat) (ver sta ver' sta' : Int → Int) (pz pz' : Int → Bool), PlEq ver sta ver' sta' → (∀ k, 0 ≤ k → k < 21 → pz k = pz' k) →
    PlEq (grG F S Q n ver sta pz).1 (grG F S Q n ver sta pz).2 (grG F S Q n ver' sta' pz').1 (grG F S Q n ver' sta' pz').2 := by
  intro n
  have w := hf.2.2.2.1
  induction n with
  | zero => intro ver sta ver' sta' pz pz' h _; exact h
  | succ n ih =>
    intro ver sta ver' sta' pz pz' h hz
    unfold grG
    rw [grP_eq hf S Q h hz _ (by omega)]
    split
    · exact h
    · split
      · refine ih _ _ _ _ _ _ h (fun k a b => ?_)
        unfold setB
        rw [hz k a b]
      · exact ih _ _ _ _ _ _ (h.put _ _ _) hz
/-- the greedy plan -/
noncomputable def gre (F : Film) (S Q : Int → Int) : (Int → Int) × (Int → Int) := grG F S Q 22 (fun _ => -4) (fun _ => -4) (fun _ => false)
end
section
/-! ===== the best plan: a table of (tick, set of pictures told ahead) ===== -/
abbrev begOk (F : Film) (S : Int → Int) (p v t set : Int) : Prop := bit set p = false ∧ (F 12 p 0 = -4 ∨ bit set (F 12 p 0) = true) ∧ ownW F S p v t = 0
def begW (F : Film) (Q : Int → Int) (B : Int) (f : Int → Int → Int) (p v t set : Int) : Int := gainW F Q p v t + f (min (t + F 13 p v + B) (F 0 0 0)) (bOr set (bShl 1 p))
def bV (F : Film) (S Q : Int → Int) (B : Int) (f : Int → Int → Int) (t set p : Int) : Nat → Int → Int
  | 0, b => b
  | k + 1, b => if begOk F S p k t set then max (bV F S Q B f t set p k b) (begW F Q B f p k t set) else bV F S Q B f t set p k b
def bP (F : Film) (S Q : Int → Int) (B : Int) (f : Int → Int → Int) (t set may : Int) : Nat → Int
  | 0 => f (t + 1) set
  | n + 1 => if bit may n then bV F S Q B f t set n (F 11 n 0).toNat (bP F S Q B f t set may n) else bP F S Q B f t set may n
def tabR (F : Film) (S Q : Int → Int) (B may : Int) : Nat → Int → Int → Int
  | 0 => fun _ _ => 0
  | n + 1 => fun t set => if t = F 0 0 0 - (n + 1) then bP F S Q B (tabR F S Q B may n) t set may (F 3 0 0).toNat else tabR F S Q B may n t set
/-- sums that are small -/
def QB (Q : Int → Int) : Prop := ∀ t, 0 ≤ t → t ≤ 100 → 0 ≤ Q t ∧ Q t ≤ 900
theorem gainQ_rng {F : Film} {Q : Int → Int} (hf : WFf F) (hb : QB Q) {p v t : Int} (hp : 0 ≤ p) (hp2 : p < F 3 0 0) (hv : 0 ≤ v) (hv2 : v < F 11 p 0) (ht : 0 ≤ t) (ht2 : t < F 0 0 0) : -2000 ≤ gainW F Q p v t ∧ gainW F Q p v t ≤ 2000 := by
  have hw := wf_pv hf hp hp2 hv hv2
  have hs := shift_rng hf hp hp2 ht ht2
  unfold gainW
  have hb1 := hb t (by omega) (by omega)
  have hb2 := hb (min (t + F 13 p v) (F 0 0 0)) (by omega) (by omega)
  omega
theorem bV_rng {F : Film} {S Q : Int → Int} (hf : WFf F) (hb : QB Q) {B : Int} (hB : 0 ≤ B) {f : Int → Int → Int} {t set p U : Int} (hp : 0 ≤ p) (hp2 : p < F 3 0 0) (ht : 0 ≤ t) (ht2 : t < F 0 0 0) (hff : ∀ u s, t < u → u ≤ F 0 0 0 → f u s ≤ U) : ∀ (k : Nat) (b : Int), (k : Int) ≤ F 11 p 0 → 0 ≤ b → b ≤ 2000 + U → 0 ≤ bV F S Q B f t set p k b ∧ bV F S Q B f t set p k b ≤ 2000 + U := by
  intro k
  induction k with
  | zero => intro b _ h0 h1; exact ⟨h0, h1⟩
  | succ k ih =>
    intro b hk h0 h1
    have h2 := ih b (by omega) h0 h1
    unfold bV
    split
    · have w := wf_pv hf hp hp2 (v := k) (by omega) (by omega)
      have g := gainQ_rng hf hb hp hp2 (v := k) (by omega) (by omega) ht ht2
      have h3 := hff (min (t + F 13 p k + B) (F 0 0 0)) (bOr set (bShl 1 p)) (by omega) (by omega)
      unfold begW
      omega
    · exact h2
theorem bP_rng {F : Film} {S Q : Int → Int} (hf : WFf F) (hb : QB Q) {B : Int} (hB : 0 ≤ B) {f : Int → Int → Int} {t set may U : Int} (hU : 0 ≤ U) (ht : 0 ≤ t) (ht2 : t < F 0 0 0) (hff : ∀ u s, t < u → u ≤ F 0 0 0 → 0 ≤ f u s ∧ f u s ≤ U) : ∀ (n : Nat), (n : Int) ≤ F 3 0 0 → 0 ≤ bP F S Q B f t set may n ∧ bP F S Q B f t set may n ≤ 2000 + U := by
  intro n
  induction n with
  | zero =>
    intro _
    have := hff (t + 1) set (by omega) (by omega)
    show 0 ≤ f (t + 1) set ∧ f (t + 1) set ≤ _
    omega
  | succ n ih =>
    intro hn
    have h1 := ih (by omega)
    have w := wf_p hf (p := n) (by omega) (by omega)
    unfold bP
    split
    · exact bV_rng hf hb hB (by omega) (by omega) ht ht2 (fun u s a b => (hff u s a b).2) _ _ (by omega) h1.1 h1.2
    · exact h1
theorem tab_rng {F : Film} {S Q : Int → Int} (hf : WFf F) (hb : QB Q) {B may : Int} (hB : 0 ≤ B) : ∀ (n : Nat) (t set : Int), (n : Int) ≤ F 0 0 0 → F 0 0 0 - n ≤ t → t ≤ F 0 0 0 → 0 ≤ tabR F S Q B may n t set ∧ tabR F S Q B may n t set ≤ 2000 * (F 0 0 0 - t) := by
  intro n
  induction n with
  | zero =>
    intro t set _ h1 h2
    show (0 : Int) ≤ 0 ∧ (0 : Int) ≤ _
    omega
  | succ n ih =>
    intro t set hn h1 h2
    have hn3 := hf.2.2.2.1
    unfold tabR
    split
    · rename_i e
      have := bP_rng (S := S) (set := set) (may := may) hf hb hB (t := t) (f := tabR F S Q B may n) (U := 2000 * (F 0 0 0 - (t + 1))) (by omega) (by omega) (by omega) (fun u s a b => by have := ih u s (by omega) (by omega) b; omega) (F 3 0 0).toNat (by omega)
      omega
    · rename_i e
      exact ih t set (by omega) (by omega) h2
/-- rows that stand are not changed by later ones -/
theorem tab_keep (F : Film) (S Q : Int → Int) (B may : Int) : ∀ (m n : Nat) (t set : Int), n ≤ m → F 0 0 0 - n ≤ t → tabR F S Q B may m t set = tabR F S Q B may n t set := by
  intro m
  induction m with
  | zero =>
    intro n t set h _
    have : n = 0 := by omega
    rw [this]
  | succ m ih =>
    intro n t set h h1
    by_cases e : n = m + 1
    · rw [e]
    · show (if t = F 0 0 0 - (m + 1) then _ else _) = _
      rw [if_neg (by omega)]
      exact ih n t set (by omega) h1
/-- which picture, in which version (3 each), begins at a tick by the table: the lowest; less than none -/
def fiV (F : Film) (S Q : Int → Int) (B : Int) (f : Int → Int → Int) (t set p : Int) : Nat → Int → Int
  | 0, _ => -1
  | n + 1, v => if begOk F S p v t set ∧ begW F Q B f p v t set = f t set then 3 * p + v else fiV F S Q B f t set p n (v + 1)
def fiP (F : Film) (S Q : Int → Int) (B : Int) (f : Int → Int → Int) (t set : Int) : Nat → Int → Int
  | 0, _ => -1
  | n + 1, p => if fiV F S Q B f t set p (F 11 p 0).toNat 0 < 0 then fiP F S Q B f t set n (p + 1) else fiV F S Q B f t set p (F 11 p 0).toNat 0
/-- the plan read out of the table -/
def trC (F : Film) (S Q : Int → Int) (B : Int) (f : Int → Int → Int) : Nat → Int → Int → Int → (Int → Int) → (Int → Int) → (Int → Int) × (Int → Int)
  | 0, _, _, _, ver, sta => (ver, sta)
  | n + 1, t, free, set, ver, sta =>
    if t < free then trC F S Q B f n (t + 1) free set ver sta
    else if fiP F S Q B f t set (F 3 0 0).toNat 0 < 0 then trC F S Q B f n (t + 1) free set ver sta
    else trC F S Q B f n (t + 1) (min (t + F 13 (fiP F S Q B f t set (F 3 0 0).toNat 0 / 3) (fiP F S Q B f t set (F 3 0 0).toNat 0 % 3) + B) (F 0 0 0)) (bOr set (bShl 1 (fiP F S Q B f t set (F 3 0 0).toNat 0 / 3))) (setP ver (fiP F S Q B f t set (F 3 0 0).toNat 0 / 3) (fiP F S Q B f t set (F 3 0 0).toNat 0 % 3)) (setP sta (fiP F S Q B f t set (F 3 0 0).toNat 0 / 3) t)
theorem fiV_spec {F : Film} {S Q : Int → Int} {B : Int} {f : Int → Int → Int} {t set p : Int} : ∀ (n : Nat) (v : Int), fiV F S Q B f t set p n v = -1 ∨ ∃ k, v ≤ k ∧ k < v + n ∧ fiV F S Q B f t set p n v = 3 * p + k ∧ begOk F S p k t set ∧ begW F Q B f p k t set = f t set := by
  intro n
  induction n with
  | zero => intro v; exact Or.inl rfl
  | succ n ih =>
    intro v
    unfold fiV
    split
    · rename_i h
      exact Or.inr ⟨v, by omega, by omega, rfl, h.1, h.2⟩
    · rcases ih (v + 1) with h | ⟨k, a, b, c⟩
      · exact Or.inl h
      · exact Or.inr ⟨k, by omega, by omega, c⟩
theorem fiP_spec {F : Film} (hf : WFf F) {S Q : Int → Int} {B : Int} {f : Int → Int → Int} {t set : Int} : ∀ (n : Nat) (p : Int), 0 ≤ p → p + n = F 3 0 0 → fiP F S Q B f t set n p = -1 ∨ ∃ q k, p ≤ q ∧ q < F 3 0 0 ∧ 0 ≤ k ∧ k < F 11 q 0 ∧ fiP F S Q B f t set n p = 3 * q + k ∧ begOk F S q k t set ∧ begW F Q B f q k t set = f t set := by
  intro n
  induction n with
  | zero => intro p _ _; exact Or.inl rfl
  | succ n ih =>
    intro p h0 hn
    have w := wf_p hf h0 (by omega)
    unfold fiP
    split
    · rcases ih (p + 1) (by omega) (by omega) with h | ⟨q, k, a, b⟩
      · exact Or.inl h
      · exact Or.inr ⟨q, k, by omega, b⟩
    · rename_i h
      rcases fiV_spec (F := F) (S := S) (Q := Q) (B := B) (f := f) (t := t) (set := set) (p := p) (F 11 p 0).toNat 0 with h' | ⟨k, a, b, c⟩
      · exact absurd (by omega) h
      · exact Or.inr ⟨p, k, by omega, by omega, a, by omega, c⟩
end
section
/-! ===== GapTellings$Picture.isNear ===== -/
abbrev rmX3_isNear : Room := { frames := 0, cells := 0, slots := 0, locals := 0 }
abbrev argX3_isNear (a : Int × Int) : List PV := [.inr (11, a.1), .inl a.2]
abbrev CtX3_isNear (sp : Int → Int → Mem → Kont → Prop) : Prop := Ct yX3_isNear cX3_isNear 2 (some .boolean) rmX3_isNear domC argX3_isNear (fun a => sp a.1 a.2)
theorem dX3_isNear_0 : decode cX3_isNear 0 = .ok (.iload_n 1, 1) := by decide +kernel
theorem dX3_isNear_1 : decode cX3_isNear 1 = .ok (.aload_n 0, 1) := by decide +kernel
theorem dX3_isNear_2 : decode cX3_isNear 2 = .ok (.getfield 18, 3) := by decide +kernel
theorem dX3_isNear_5 : decode cX3_isNear 5 = .ok (.aload_n 0, 1) := by decide +kernel
theorem dX3_isNear_6 : decode cX3_isNear 6 = .ok (.getfield 22, 3) := by decide +kernel
theorem dX3_isNear_9 : decode cX3_isNear 9 = .ok (.isub, 1) := by decide +kernel
theorem dX3_isNear_10 : decode cX3_isNear 10 = .ok (.if_icmp .lt 20, 3) := by decide +kernel
theorem dX3_isNear_13 : decode cX3_isNear 13 = .ok (.iload_n 1, 1) := by decide +kernel
theorem dX3_isNear_14 : decode cX3_isNear 14 = .ok (.aload_n 0, 1) := by decide +kernel
theorem dX3_isNear_15 : decode cX3_isNear 15 = .ok (.getfield 18, 3) := by decide +kernel
theorem dX3_isNear_18 : decode cX3_isNear 18 = .ok (.aload_n 0, 1) := by decide +kernel
theorem dX3_isNear_19 : decode cX3_isNear 19 = .ok (.getfield 25, 3) := by decide +kernel
theorem dX3_isNear_22 : decode cX3_isNear 22 = .ok (.iadd, 1) := by decide +kernel
theorem dX3_isNear_23 : decode cX3_isNear 23 = .ok (.if_icmp .gt 7, 3) := by decide +kernel
theorem dX3_isNear_26 : decode cX3_isNear 26 = .ok (.iconst 1, 1) := by decide +kernel
theorem dX3_isNear_27 : decode cX3_isNear 27 = .ok (.goto 4, 3) := by decide +kernel
theorem dX3_isNear_30 : decode cX3_isNear 30 = .ok (.iconst 0, 1) := by decide +kernel
theorem dX3_isNear_31 : decode cX3_isNear 31 = .ok (.ireturn, 1) := by decide +kernel
theorem flX3_18 : FL RX3 18 3 0 := ⟨_, _, _, rfl, by decide, uwX3, Or.inl (tb_mem (t_in1 (List.mem_of_getElem? (i := 61) (by decide +kernel))) (by decide +kernel))⟩
theorem flX3_22 : FL RX3 22 3 1 := ⟨_, _, _, rfl, by decide, uwX3, Or.inl (tb_mem (t_in1 (List.mem_of_getElem? (i := 66) (by decide +kernel))) (by decide +kernel))⟩
theorem flX3_25 : FL RX3 25 3 2 := ⟨_, _, _, rfl, by decide, uwX3, Or.inl (tb_mem (t_in1 (List.mem_of_getElem? (i := 70) (by decide +kernel))) (by decide +kernel))⟩
set_option maxHeartbeats 4000000 in
set_option maxRecDepth 20000 in
theorem sgX3_isNear_0 {κ : Kx} {K : Kont} {M : Mem} (C : Cx κ RX3 cX3_isNear 2 (some .boolean) rmX3_isNear domC) (i0 : Int) (x1 : Int)
    (h :
    inR ((M 11 i0 0) - (M 11 i0 1)) ∧
    ((x1 < ((M 11 i0 0) - (M 11 i0 1)) →
      K (some 0) M) ∧
     (¬ (x1 < ((M 11 i0 0) - (M 11 i0 1))) →
      inR ((M 11 i0 0) + (M 11 i0 2)) ∧
      ((((M 11 i0 0) + (M 11 i0 2)) < x1 →
        K (some 0) M) ∧
       (¬ (((M 11 i0 0) + (M 11 i0 2)) < x1) →
        K (some 1) M))))) : V κ 2 M 0 [some (.inr (11, i0)), some (.inl x1)] [] K := by
  refine v_iload_n C dX3_isNear_0 rfl ?_
  refine v_aload_n C dX3_isNear_1 rfl ?_
  refine v_get C dX3_isNear_2 flX3_18 rfl (by decide) (by decide) (w := .inl (M 11 i0 0)) rfl ?_
  refine v_aload_n C dX3_isNear_5 rfl ?_
  refine v_get C dX3_isNear_6 flX3_22 rfl (by decide) (by decide) (w := .inl (M 11 i0 1)) rfl ?_
  refine v_isub C dX3_isNear_9 h.1 ?_
  replace h := h.2
  refine v_icmp C dX3_isNear_10 (tgt := 30) (by decide) (P := x1 < ((M 11 i0 0) - (M 11 i0 1))) rfl (fun c10 => ?_) (fun c10 => ?_)
  · replace h := h.1 c10
    refine v_iconst C dX3_isNear_30 (by decide) ?_
    exact v_zret C dX3_isNear_31 (by decide) h
  · replace h := h.2 c10
    refine v_iload_n C dX3_isNear_13 rfl ?_
    refine v_aload_n C dX3_isNear_14 rfl ?_
    refine v_get C dX3_isNear_15 flX3_18 rfl (by decide) (by decide) (w := .inl (M 11 i0 0)) rfl ?_
    refine v_aload_n C dX3_isNear_18 rfl ?_
    refine v_get C dX3_isNear_19 flX3_25 rfl (by decide) (by decide) (w := .inl (M 11 i0 2)) rfl ?_
    refine v_iadd C dX3_isNear_22 h.1 ?_
    replace h := h.2
    refine v_icmp C dX3_isNear_23 (tgt := 30) (by decide) (P := ((M 11 i0 0) + (M 11 i0 2)) < x1) rfl (fun c23 => ?_) (fun c23 => ?_)
    · replace h := h.1 c23
      refine v_iconst C dX3_isNear_30 (by decide) ?_
      exact v_zret C dX3_isNear_31 (by decide) h
    · replace h := h.2 c23
      refine v_iconst C dX3_isNear_26 (by decide) ?_
      refine v_goto C dX3_isNear_27 (tgt := 31) (by decide) ?_
      exact v_zret C dX3_isNear_31 (by decide) h
abbrev spX3_isNear (i t : Int) (M : Mem) (K : Kont) : Prop := (0 ≤ M 11 i 0 ∧ M 11 i 0 ≤ 100 ∧ 0 ≤ M 11 i 1 ∧ M 11 i 1 ≤ 20 ∧ 0 ≤ M 11 i 2 ∧ M 11 i 2 ≤ 20) ∧
  K (some (if t < M 11 i 0 - M 11 i 1 ∨ M 11 i 0 + M 11 i 2 < t then 0 else 1)) M
theorem ctX3_isNear : CtX3_isNear spX3_isNear := by
  refine ct_of (by decide) dmC (fun _ => Nat.le_of_ble_eq_true rfl) ?_
  intro κ a M K C oM h
  obtain ⟨i, t⟩ := a
  refine sgX3_isNear_0 C i t ?_
  clear C
  dsimp only [spX3_isNear] at h
  grind
/-! ===== GapTellings$Track.hasSpeech ===== -/
abbrev rmX6_hasSpeech : Room := { frames := 0, cells := 0, slots := 0, locals := 0 }
abbrev argX6_hasSpeech (a : Int × Int) : List PV := [.inr (14, a.1), .inl a.2]
abbrev CtX6_hasSpeech (sp : Int → Int → Mem → Kont → Prop) : Prop := Ct yX6_hasSpeech cX6_hasSpeech 2 (some .boolean) rmX6_hasSpeech domC argX6_hasSpeech (fun a => sp a.1 a.2)
theorem dX6_hasSpeech_0 : decode cX6_hasSpeech 0 = .ok (.aload_n 0, 1) := by decide +kernel
theorem dX6_hasSpeech_1 : decode cX6_hasSpeech 1 = .ok (.getfield 9, 3) := by decide +kernel
theorem dX6_hasSpeech_4 : decode cX6_hasSpeech 4 = .ok (.iload_n 1, 1) := by decide +kernel
theorem dX6_hasSpeech_5 : decode cX6_hasSpeech 5 = .ok (.iaload, 1) := by decide +kernel
theorem dX6_hasSpeech_6 : decode cX6_hasSpeech 6 = .ok (.iconst 1, 1) := by decide +kernel
theorem dX6_hasSpeech_7 : decode cX6_hasSpeech 7 = .ok (.iand, 1) := by decide +kernel
theorem dX6_hasSpeech_8 : decode cX6_hasSpeech 8 = .ok (.ifCond .eq 7, 3) := by decide +kernel
theorem dX6_hasSpeech_11 : decode cX6_hasSpeech 11 = .ok (.iconst 1, 1) := by decide +kernel
theorem dX6_hasSpeech_12 : decode cX6_hasSpeech 12 = .ok (.goto 4, 3) := by decide +kernel
theorem dX6_hasSpeech_15 : decode cX6_hasSpeech 15 = .ok (.iconst 0, 1) := by decide +kernel
theorem dX6_hasSpeech_16 : decode cX6_hasSpeech 16 = .ok (.ireturn, 1) := by decide +kernel
theorem flX6_9 : FL RX6 9 6 1 := ⟨_, _, _, rfl, by decide, uwX6, Or.inl (tb_mem (t_in1 (List.mem_of_getElem? (i := 170) (by decide +kernel))) (by decide +kernel))⟩
set_option maxHeartbeats 4000000 in
set_option maxRecDepth 20000 in
theorem sgX6_hasSpeech_0 {κ : Kx} {K : Kont} {M : Mem} (C : Cx κ RX6 cX6_hasSpeech 2 (some .boolean) rmX6_hasSpeech domC) (i0 : Int) (x1 : Int)
    (h :
    (0 ≤ x1 ∧ x1 < 100) ∧
    (((bAnd (M 15 i0 x1) 1) = 0 →
      K (some 0) M) ∧
     (¬ ((bAnd (M 15 i0 x1) 1) = 0) →
      K (some 1) M))) : V κ 2 M 0 [some (.inr (14, i0)), some (.inl x1)] [] K := by
  refine v_aload_n C dX6_hasSpeech_0 rfl ?_
  refine v_get C dX6_hasSpeech_1 flX6_9 rfl (by decide) (by decide) (w := .inr (15, i0)) rfl ?_
  refine v_iload_n C dX6_hasSpeech_4 rfl ?_
  refine v_iald C dX6_hasSpeech_5 rfl h.1.1 h.1.2 ?_
  replace h := h.2
  refine v_iconst C dX6_hasSpeech_6 (by decide) ?_
  refine v_iand C dX6_hasSpeech_7 ?_
  refine v_if C dX6_hasSpeech_8 (tgt := 15) (by decide) (P := (bAnd (M 15 i0 x1) 1) = 0) rfl (fun c8 => ?_) (fun c8 => ?_)
  · replace h := h.1 c8
    refine v_iconst C dX6_hasSpeech_15 (by decide) ?_
    exact v_zret C dX6_hasSpeech_16 (by decide) h
  · replace h := h.2 c8
    refine v_iconst C dX6_hasSpeech_11 (by decide) ?_
    refine v_goto C dX6_hasSpeech_12 (tgt := 16) (by decide) ?_
    exact v_zret C dX6_hasSpeech_16 (by decide) h
abbrev spX6_hasSpeech (i t : Int) (M : Mem) (K : Kont) : Prop := (0 ≤ t ∧ t < 100) ∧ K (some (if bAnd (M 15 i t) 1 = 0 then 0 else 1)) M
theorem ctX6_hasSpeech : CtX6_hasSpeech spX6_hasSpeech := by
  refine ct_of (by decide) dmC (fun _ => Nat.le_of_ble_eq_true rfl) ?_
  intro κ a M K C oM h
  obtain ⟨i, t⟩ := a
  refine sgX6_hasSpeech_0 C i t ?_
  clear C
  dsimp only [spX6_hasSpeech] at h
  grind
/-! ===== GapTellings$Track.ownWhyNot ===== -/
abbrev rmX6_ownWhyNot : Room := { frames := 1, cells := 0, slots := 0, locals := 21 }
abbrev argX6_ownWhyNot (a : Int × Int × Int × Int) : List PV := [.inr (14, a.1), .inl a.2.1, .inl a.2.2.1, .inl a.2.2.2]
abbrev CtX6_ownWhyNot (sp : Int → Int → Int → Int → Mem → Kont → Prop) : Prop := Ct yX6_ownWhyNot cX6_ownWhyNot 6 (some .int) rmX6_ownWhyNot domC argX6_ownWhyNot (fun a => sp a.1 a.2.1 a.2.2.1 a.2.2.2)
theorem dX6_ownWhyNot_0 : decode cX6_ownWhyNot 0 = .ok (.aload_n 0, 1) := by decide +kernel
theorem dX6_ownWhyNot_1 : decode cX6_ownWhyNot 1 = .ok (.getfield 21, 3) := by decide +kernel
theorem dX6_ownWhyNot_4 : decode cX6_ownWhyNot 4 = .ok (.getfield 60, 3) := by decide +kernel
theorem dX6_ownWhyNot_7 : decode cX6_ownWhyNot 7 = .ok (.iload_n 1, 1) := by decide +kernel
theorem dX6_ownWhyNot_8 : decode cX6_ownWhyNot 8 = .ok (.aaload, 1) := by decide +kernel
theorem dX6_ownWhyNot_9 : decode cX6_ownWhyNot 9 = .ok (.astore 4, 2) := by decide +kernel
theorem dX6_ownWhyNot_11 : decode cX6_ownWhyNot 11 = .ok (.iload_n 3, 1) := by decide +kernel
theorem dX6_ownWhyNot_12 : decode cX6_ownWhyNot 12 = .ok (.aload 4, 2) := by decide +kernel
theorem dX6_ownWhyNot_14 : decode cX6_ownWhyNot 14 = .ok (.getfield 64, 3) := by decide +kernel
theorem dX6_ownWhyNot_17 : decode cX6_ownWhyNot 17 = .ok (.iload_n 2, 1) := by decide +kernel
theorem dX6_ownWhyNot_18 : decode cX6_ownWhyNot 18 = .ok (.iaload, 1) := by decide +kernel
theorem dX6_ownWhyNot_19 : decode cX6_ownWhyNot 19 = .ok (.iadd, 1) := by decide +kernel
theorem dX6_ownWhyNot_20 : decode cX6_ownWhyNot 20 = .ok (.istore 5, 2) := by decide +kernel
theorem dX6_ownWhyNot_22 : decode cX6_ownWhyNot 22 = .ok (.iload 5, 2) := by decide +kernel
theorem dX6_ownWhyNot_24 : decode cX6_ownWhyNot 24 = .ok (.aload_n 0, 1) := by decide +kernel
theorem dX6_ownWhyNot_25 : decode cX6_ownWhyNot 25 = .ok (.getfield 21, 3) := by decide +kernel
theorem dX6_ownWhyNot_28 : decode cX6_ownWhyNot 28 = .ok (.getfield 46, 3) := by decide +kernel
theorem dX6_ownWhyNot_31 : decode cX6_ownWhyNot 31 = .ok (.if_icmp .le 5, 3) := by decide +kernel
theorem dX6_ownWhyNot_34 : decode cX6_ownWhyNot 34 = .ok (.iconst 1, 1) := by decide +kernel
theorem dX6_ownWhyNot_35 : decode cX6_ownWhyNot 35 = .ok (.ireturn, 1) := by decide +kernel
theorem dX6_ownWhyNot_36 : decode cX6_ownWhyNot 36 = .ok (.aload 4, 2) := by decide +kernel
theorem dX6_ownWhyNot_38 : decode cX6_ownWhyNot 38 = .ok (.iload_n 3, 1) := by decide +kernel
theorem dX6_ownWhyNot_39 : decode cX6_ownWhyNot 39 = .ok (.invokevirtual 69, 3) := by decide +kernel
theorem dX6_ownWhyNot_42 : decode cX6_ownWhyNot 42 = .ok (.ifCond .ne 5, 3) := by decide +kernel
theorem dX6_ownWhyNot_45 : decode cX6_ownWhyNot 45 = .ok (.iconst 2, 1) := by decide +kernel
theorem dX6_ownWhyNot_46 : decode cX6_ownWhyNot 46 = .ok (.ireturn, 1) := by decide +kernel
theorem dX6_ownWhyNot_47 : decode cX6_ownWhyNot 47 = .ok (.aload_n 0, 1) := by decide +kernel
theorem dX6_ownWhyNot_48 : decode cX6_ownWhyNot 48 = .ok (.getfield 15, 3) := by decide +kernel
theorem dX6_ownWhyNot_51 : decode cX6_ownWhyNot 51 = .ok (.iload 5, 2) := by decide +kernel
theorem dX6_ownWhyNot_53 : decode cX6_ownWhyNot 53 = .ok (.iaload, 1) := by decide +kernel
theorem dX6_ownWhyNot_54 : decode cX6_ownWhyNot 54 = .ok (.aload_n 0, 1) := by decide +kernel
theorem dX6_ownWhyNot_55 : decode cX6_ownWhyNot 55 = .ok (.getfield 15, 3) := by decide +kernel
theorem dX6_ownWhyNot_58 : decode cX6_ownWhyNot 58 = .ok (.iload_n 3, 1) := by decide +kernel
theorem dX6_ownWhyNot_59 : decode cX6_ownWhyNot 59 = .ok (.iaload, 1) := by decide +kernel
theorem dX6_ownWhyNot_60 : decode cX6_ownWhyNot 60 = .ok (.if_icmp .le 7, 3) := by decide +kernel
theorem dX6_ownWhyNot_63 : decode cX6_ownWhyNot 63 = .ok (.iconst 3, 1) := by decide +kernel
theorem dX6_ownWhyNot_64 : decode cX6_ownWhyNot 64 = .ok (.goto 4, 3) := by decide +kernel
theorem dX6_ownWhyNot_67 : decode cX6_ownWhyNot 67 = .ok (.iconst 0, 1) := by decide +kernel
theorem dX6_ownWhyNot_68 : decode cX6_ownWhyNot 68 = .ok (.ireturn, 1) := by decide +kernel
theorem flX6_21 : FL RX6 21 6 0 := ⟨_, _, _, rfl, by decide, uwX6, Or.inl (tb_mem (t_in1 (List.mem_of_getElem? (i := 169) (by decide +kernel))) (by decide +kernel))⟩
theorem flX6_60 : FL RX6 60 1 8 := ⟨_, _, _, rfl, by decide, uwX1, Or.inr ⟨"GapTellings", (nw_mem (t_in1 (List.mem_of_getElem? (i := 140) (by decide +kernel))) (by decide +kernel))⟩⟩
theorem flX6_64 : FL RX6 64 3 5 := ⟨_, _, _, rfl, by decide, uwX3, Or.inr ⟨"GapTellings", (nw_mem (t_in1 (List.mem_of_getElem? (i := 83) (by decide +kernel))) (by decide +kernel))⟩⟩
theorem flX6_46 : FL RX6 46 1 0 := ⟨_, _, _, rfl, by decide, uwX1, Or.inr ⟨"GapTellings", (nw_mem (t_in1 (List.mem_of_getElem? (i := 108) (by decide +kernel))) (by decide +kernel))⟩⟩
theorem ivX6_69 : IV RX6 69 yX3_isNear cX3_isNear 2 (some .boolean) 1 := ⟨(tb_mem (t_in3 (List.mem_of_getElem? (i := 65) (by decide +kernel))) (by decide +kernel)), (tb_mem (t_in3 (List.mem_of_getElem? (i := 66) (by decide +kernel))) (by decide +kernel)), (tb_mem (t_in3 (List.mem_of_getElem? (i := 67) (by decide +kernel))) (by decide +kernel)), (tb_mem (t_in1 (List.mem_of_getElem? (i := 4) (by decide +kernel))) (by decide +kernel)), (tb_mem (t_in3 (List.mem_of_getElem? (i := 68) (by decide +kernel))) (by decide +kernel)), ⟨by decide +kernel, by decide +kernel, by decide +kernel⟩⟩
theorem flX6_15 : FL RX6 15 6 2 := ⟨_, _, _, rfl, by decide, uwX6, Or.inl (tb_mem (t_in1 (List.mem_of_getElem? (i := 172) (by decide +kernel))) (by decide +kernel))⟩
set_option maxHeartbeats 4000000 in
set_option maxRecDepth 20000 in
theorem sgX6_ownWhyNot_0 {κ : Kx} {K : Kont} {M : Mem} (C : Cx κ RX6 cX6_ownWhyNot 6 (some .int) rmX6_ownWhyNot domC) (i0 : Int) (x1 : Int) (x2 : Int) (x3 : Int)
    (h :
    (0 ≤ x1 ∧ x1 < 7) ∧
    (0 ≤ x2 ∧ x2 < 3) ∧
    inR (x3 + (M 12 (7 * 1 + x1) x2)) ∧
    ∀ y5_20 : Int, y5_20 = x3 + (M 12 (7 * 1 + x1) x2) →
    ((y5_20 ≤ (M 5 1 0) →
      spX3_isNear (7 * 1 + x1) x3 M (rI (fun r39 M39 =>
      ((r39 ≠ 0 →
        (0 ≤ y5_20 ∧ y5_20 < 101) ∧
        (0 ≤ x3 ∧ x3 < 101) ∧
        (((M39 16 i0 y5_20) ≤ (M39 16 i0 x3) →
          K (some 0) M39) ∧
         (¬ ((M39 16 i0 y5_20) ≤ (M39 16 i0 x3)) →
          K (some 3) M39))) ∧
       (¬ (r39 ≠ 0) →
        K (some 2) M39))))) ∧
     (¬ (y5_20 ≤ (M 5 1 0)) →
      K (some 1) M))) : V κ 6 M 0 [some (.inr (14, i0)), some (.inl x1), some (.inl x2), some (.inl x3), none, none] [] K := by
  refine v_aload_n C dX6_ownWhyNot_0 rfl ?_
  refine v_get C dX6_ownWhyNot_1 flX6_21 rfl (by decide) (by decide) (w := .inr (5, 1)) rfl ?_
  refine v_get C dX6_ownWhyNot_4 flX6_60 rfl (by decide) (by decide) (w := .inr (10, 1)) rfl ?_
  refine v_iload_n C dX6_ownWhyNot_7 rfl ?_
  refine v_aald C dX6_ownWhyNot_8 h.1.1 h.1.2 ?_
  replace h := h.2
  refine v_astore C dX6_ownWhyNot_9 (by decide) (Nat.le_of_ble_eq_true rfl) (lv' := [some (.inr (14, i0)), some (.inl x1), some (.inl x2), some (.inl x3), some (.inr (11, 7 * 1 + x1)), none]) rfl ?_
  refine v_iload_n C dX6_ownWhyNot_11 rfl ?_
  refine v_aload C dX6_ownWhyNot_12 rfl ?_
  refine v_get C dX6_ownWhyNot_14 flX6_64 rfl (by decide) (by decide) (w := .inr (12, 7 * 1 + x1)) rfl ?_
  refine v_iload_n C dX6_ownWhyNot_17 rfl ?_
  refine v_iald C dX6_ownWhyNot_18 rfl h.1.1 h.1.2 ?_
  replace h := h.2
  refine v_iadd C dX6_ownWhyNot_19 h.1 ?_
  replace h := h.2
  refine v_nm (fun y5_20 ey5_20 => ?_)
  replace h := h y5_20 ey5_20
  refine v_istore C dX6_ownWhyNot_20 (by decide) (Nat.le_of_ble_eq_true rfl) (lv' := [some (.inr (14, i0)), some (.inl x1), some (.inl x2), some (.inl x3), some (.inr (11, 7 * 1 + x1)), some (.inl y5_20)]) rfl ?_
  refine v_iload C dX6_ownWhyNot_22 rfl ?_
  refine v_aload_n C dX6_ownWhyNot_24 rfl ?_
  refine v_get C dX6_ownWhyNot_25 flX6_21 rfl (by decide) (by decide) (w := .inr (5, 1)) rfl ?_
  refine v_get C dX6_ownWhyNot_28 flX6_46 rfl (by decide) (by decide) (w := .inl (M 5 1 0)) rfl ?_
  refine v_icmp C dX6_ownWhyNot_31 (tgt := 36) (by decide) (P := y5_20 ≤ (M 5 1 0)) rfl (fun c31 => ?_) (fun c31 => ?_)
  · replace h := h.1 c31
    refine v_aload C dX6_ownWhyNot_36 rfl ?_
    refine v_iload_n C dX6_ownWhyNot_38 rfl ?_
    refine v_invV C ctX3_isNear dX6_ownWhyNot_39 ivX6_69 ⟨by decide, by decide, rfl, rfl⟩ ((7 * 1 + x1, x3) : Int × Int) (As := [.inl x3]) rfl rfl rfl (by decide) rfl (st := []) rfl (Nat.le_of_ble_eq_true rfl) h (fun o M39 oM39 io39 h => ?_)
    obtain ⟨r39, rfl, h⟩ := rI_out h
    refine v_push ?_
    refine v_if C dX6_ownWhyNot_42 (tgt := 47) (by decide) (P := r39 ≠ 0) rfl (fun c42 => ?_) (fun c42 => ?_)
    · replace h := h.1 c42
      refine v_aload_n C dX6_ownWhyNot_47 rfl ?_
      refine v_get C dX6_ownWhyNot_48 flX6_15 rfl (by decide) (by decide) (w := .inr (16, i0)) rfl ?_
      refine v_iload C dX6_ownWhyNot_51 rfl ?_
      refine v_iald C dX6_ownWhyNot_53 rfl h.1.1 h.1.2 ?_
      replace h := h.2
      refine v_aload_n C dX6_ownWhyNot_54 rfl ?_
      refine v_get C dX6_ownWhyNot_55 flX6_15 rfl (by decide) (by decide) (w := .inr (16, i0)) rfl ?_
      refine v_iload_n C dX6_ownWhyNot_58 rfl ?_
      refine v_iald C dX6_ownWhyNot_59 rfl h.1.1 h.1.2 ?_
      replace h := h.2
      refine v_icmp C dX6_ownWhyNot_60 (tgt := 67) (by decide) (P := (M39 16 i0 y5_20) ≤ (M39 16 i0 x3)) rfl (fun c60 => ?_) (fun c60 => ?_)
      · replace h := h.1 c60
        refine v_iconst C dX6_ownWhyNot_67 (by decide) ?_
        exact v_iret C dX6_ownWhyNot_68 h
      · replace h := h.2 c60
        refine v_iconst C dX6_ownWhyNot_63 (by decide) ?_
        refine v_goto C dX6_ownWhyNot_64 (tgt := 68) (by decide) ?_
        exact v_iret C dX6_ownWhyNot_68 h
    · replace h := h.2 c42
      refine v_iconst C dX6_ownWhyNot_45 (by decide) ?_
      exact v_iret C dX6_ownWhyNot_46 h
  · replace h := h.2 c31
    refine v_iconst C dX6_ownWhyNot_34 (by decide) ?_
    exact v_iret C dX6_ownWhyNot_35 h
abbrev spX6_ownWhyNot (tr p v t : Int) (M : Mem) (K : Kont) : Prop := (WFf (cFilm M 1) ∧ (0 ≤ p ∧ p < M 5 1 7) ∧ (0 ≤ v ∧ v < M 11 (7 * 1 + p) 4) ∧ (0 ≤ t ∧ t < M 5 1 0)) ∧
  K (some (ownW (cFilm M 1) (M 16 tr) p v t)) M
theorem ctX6_ownWhyNot : CtX6_ownWhyNot spX6_ownWhyNot := by
  refine ct_of (by decide) dmC (fun _ => Nat.le_of_ble_eq_true rfl) ?_
  intro κ a M K C oM h
  obtain ⟨tr, p, v, t⟩ := a
  refine sgX6_ownWhyNot_0 C tr p v t ?_
  clear C
  dsimp only [spX6_ownWhyNot] at h
  obtain ⟨⟨hf, hp, hv, ht⟩, hk⟩ := h
  have hw := wf_pv hf hp.1 hp.2 hv.1 hv.2
  simp only [cFilm, ownW] at hw hk
  clear hf oM κ
  grind (splits := 20) [rI]
/-! ===== GapTellings$Track.gainOf ===== -/
abbrev rmX6_gainOf : Room := { frames := 1, cells := 0, slots := 0, locals := 21 }
abbrev argX6_gainOf (a : Int × Int × Int × Int) : List PV := [.inr (14, a.1), .inl a.2.1, .inl a.2.2.1, .inl a.2.2.2]
abbrev CtX6_gainOf (sp : Int → Int → Int → Int → Mem → Kont → Prop) : Prop := Ct yX6_gainOf cX6_gainOf 8 (some .int) rmX6_gainOf domC argX6_gainOf (fun a => sp a.1 a.2.1 a.2.2.1 a.2.2.2)
theorem dX6_gainOf_0 : decode cX6_gainOf 0 = .ok (.aload_n 0, 1) := by decide +kernel
theorem dX6_gainOf_1 : decode cX6_gainOf 1 = .ok (.getfield 21, 3) := by decide +kernel
theorem dX6_gainOf_4 : decode cX6_gainOf 4 = .ok (.getfield 60, 3) := by decide +kernel
theorem dX6_gainOf_7 : decode cX6_gainOf 7 = .ok (.iload_n 1, 1) := by decide +kernel
theorem dX6_gainOf_8 : decode cX6_gainOf 8 = .ok (.aaload, 1) := by decide +kernel
theorem dX6_gainOf_9 : decode cX6_gainOf 9 = .ok (.astore 4, 2) := by decide +kernel
theorem dX6_gainOf_11 : decode cX6_gainOf 11 = .ok (.iload_n 3, 1) := by decide +kernel
theorem dX6_gainOf_12 : decode cX6_gainOf 12 = .ok (.aload 4, 2) := by decide +kernel
theorem dX6_gainOf_14 : decode cX6_gainOf 14 = .ok (.getfield 64, 3) := by decide +kernel
theorem dX6_gainOf_17 : decode cX6_gainOf 17 = .ok (.iload_n 2, 1) := by decide +kernel
theorem dX6_gainOf_18 : decode cX6_gainOf 18 = .ok (.iaload, 1) := by decide +kernel
theorem dX6_gainOf_19 : decode cX6_gainOf 19 = .ok (.iadd, 1) := by decide +kernel
theorem dX6_gainOf_20 : decode cX6_gainOf 20 = .ok (.aload_n 0, 1) := by decide +kernel
theorem dX6_gainOf_21 : decode cX6_gainOf 21 = .ok (.getfield 21, 3) := by decide +kernel
theorem dX6_gainOf_24 : decode cX6_gainOf 24 = .ok (.getfield 46, 3) := by decide +kernel
theorem dX6_gainOf_27 : decode cX6_gainOf 27 = .ok (.invokestatic 72, 3) := by decide +kernel
theorem dX6_gainOf_30 : decode cX6_gainOf 30 = .ok (.istore 5, 2) := by decide +kernel
theorem dX6_gainOf_32 : decode cX6_gainOf 32 = .ok (.iload_n 3, 1) := by decide +kernel
theorem dX6_gainOf_33 : decode cX6_gainOf 33 = .ok (.aload 4, 2) := by decide +kernel
theorem dX6_gainOf_35 : decode cX6_gainOf 35 = .ok (.getfield 78, 3) := by decide +kernel
theorem dX6_gainOf_38 : decode cX6_gainOf 38 = .ok (.isub, 1) := by decide +kernel
theorem dX6_gainOf_39 : decode cX6_gainOf 39 = .ok (.istore 6, 2) := by decide +kernel
theorem dX6_gainOf_41 : decode cX6_gainOf 41 = .ok (.iload 6, 2) := by decide +kernel
theorem dX6_gainOf_43 : decode cX6_gainOf 43 = .ok (.ifCond .ge 19, 3) := by decide +kernel
theorem dX6_gainOf_46 : decode cX6_gainOf 46 = .ok (.iload 6, 2) := by decide +kernel
theorem dX6_gainOf_48 : decode cX6_gainOf 48 = .ok (.ineg, 1) := by decide +kernel
theorem dX6_gainOf_49 : decode cX6_gainOf 49 = .ok (.aload_n 0, 1) := by decide +kernel
theorem dX6_gainOf_50 : decode cX6_gainOf 50 = .ok (.getfield 21, 3) := by decide +kernel
theorem dX6_gainOf_53 : decode cX6_gainOf 53 = .ok (.getfield 57, 3) := by decide +kernel
theorem dX6_gainOf_56 : decode cX6_gainOf 56 = .ok (.iconst 0, 1) := by decide +kernel
theorem dX6_gainOf_57 : decode cX6_gainOf 57 = .ok (.iaload, 1) := by decide +kernel
theorem dX6_gainOf_58 : decode cX6_gainOf 58 = .ok (.imul, 1) := by decide +kernel
theorem dX6_gainOf_59 : decode cX6_gainOf 59 = .ok (.goto 15, 3) := by decide +kernel
theorem dX6_gainOf_62 : decode cX6_gainOf 62 = .ok (.iload 6, 2) := by decide +kernel
theorem dX6_gainOf_64 : decode cX6_gainOf 64 = .ok (.aload_n 0, 1) := by decide +kernel
theorem dX6_gainOf_65 : decode cX6_gainOf 65 = .ok (.getfield 21, 3) := by decide +kernel
theorem dX6_gainOf_68 : decode cX6_gainOf 68 = .ok (.getfield 57, 3) := by decide +kernel
theorem dX6_gainOf_71 : decode cX6_gainOf 71 = .ok (.iconst 1, 1) := by decide +kernel
theorem dX6_gainOf_72 : decode cX6_gainOf 72 = .ok (.iaload, 1) := by decide +kernel
theorem dX6_gainOf_73 : decode cX6_gainOf 73 = .ok (.imul, 1) := by decide +kernel
theorem dX6_gainOf_74 : decode cX6_gainOf 74 = .ok (.istore 7, 2) := by decide +kernel
theorem dX6_gainOf_76 : decode cX6_gainOf 76 = .ok (.aload 4, 2) := by decide +kernel
theorem dX6_gainOf_78 : decode cX6_gainOf 78 = .ok (.getfield 81, 3) := by decide +kernel
theorem dX6_gainOf_81 : decode cX6_gainOf 81 = .ok (.iload_n 2, 1) := by decide +kernel
theorem dX6_gainOf_82 : decode cX6_gainOf 82 = .ok (.iaload, 1) := by decide +kernel
theorem dX6_gainOf_83 : decode cX6_gainOf 83 = .ok (.iload 7, 2) := by decide +kernel
theorem dX6_gainOf_85 : decode cX6_gainOf 85 = .ok (.isub, 1) := by decide +kernel
theorem dX6_gainOf_86 : decode cX6_gainOf 86 = .ok (.aload_n 0, 1) := by decide +kernel
theorem dX6_gainOf_87 : decode cX6_gainOf 87 = .ok (.getfield 18, 3) := by decide +kernel
theorem dX6_gainOf_90 : decode cX6_gainOf 90 = .ok (.iload 5, 2) := by decide +kernel
theorem dX6_gainOf_92 : decode cX6_gainOf 92 = .ok (.iaload, 1) := by decide +kernel
theorem dX6_gainOf_93 : decode cX6_gainOf 93 = .ok (.aload_n 0, 1) := by decide +kernel
theorem dX6_gainOf_94 : decode cX6_gainOf 94 = .ok (.getfield 18, 3) := by decide +kernel
theorem dX6_gainOf_97 : decode cX6_gainOf 97 = .ok (.iload_n 3, 1) := by decide +kernel
theorem dX6_gainOf_98 : decode cX6_gainOf 98 = .ok (.iaload, 1) := by decide +kernel
theorem dX6_gainOf_99 : decode cX6_gainOf 99 = .ok (.isub, 1) := by decide +kernel
theorem dX6_gainOf_100 : decode cX6_gainOf 100 = .ok (.isub, 1) := by decide +kernel
theorem dX6_gainOf_101 : decode cX6_gainOf 101 = .ok (.ireturn, 1) := by decide +kernel
theorem ivX6_72 : IMin RX6 72 := ⟨(tb_mem (t_in3 (List.mem_of_getElem? (i := 123) (by decide +kernel))) (by decide +kernel)), (tb_mem (t_in2 (List.mem_of_getElem? (i := 32) (by decide +kernel))) (by decide +kernel)), (tb_mem (t_in1 (List.mem_of_getElem? (i := 11) (by decide +kernel))) (by decide +kernel)), (tb_mem (t_in2 (List.mem_of_getElem? (i := 33) (by decide +kernel))) (by decide +kernel))⟩
theorem flX6_78 : FL RX6 78 3 0 := ⟨_, _, _, rfl, by decide, uwX3, Or.inr ⟨"GapTellings", (nw_mem (t_in1 (List.mem_of_getElem? (i := 64) (by decide +kernel))) (by decide +kernel))⟩⟩
theorem flX6_57 : FL RX6 57 1 2 := ⟨_, _, _, rfl, by decide, uwX1, Or.inr ⟨"GapTellings", (nw_mem (t_in1 (List.mem_of_getElem? (i := 117) (by decide +kernel))) (by decide +kernel))⟩⟩
theorem flX6_81 : FL RX6 81 3 6 := ⟨_, _, _, rfl, by decide, uwX3, Or.inr ⟨"GapTellings", (nw_mem (t_in1 (List.mem_of_getElem? (i := 89) (by decide +kernel))) (by decide +kernel))⟩⟩
theorem flX6_18 : FL RX6 18 6 3 := ⟨_, _, _, rfl, by decide, uwX6, Or.inl (tb_mem (t_in1 (List.mem_of_getElem? (i := 174) (by decide +kernel))) (by decide +kernel))⟩
set_option maxHeartbeats 4000000 in
set_option maxRecDepth 20000 in
theorem sgX6_gainOf_0 {κ : Kx} {K : Kont} {M : Mem} (C : Cx κ RX6 cX6_gainOf 8 (some .int) rmX6_gainOf domC) (i0 : Int) (x1 : Int) (x2 : Int) (x3 : Int)
    (h :
    (0 ≤ x1 ∧ x1 < 7) ∧
    (0 ≤ x2 ∧ x2 < 3) ∧
    inR (x3 + (M 12 (7 * 1 + x1) x2)) ∧
    ∀ y5_30 : Int, y5_30 = min (x3 + (M 12 (7 * 1 + x1) x2)) (M 5 1 0) →
    inR (x3 - (M 11 (7 * 1 + x1) 0)) ∧
    ∀ y6_39 : Int, y6_39 = x3 - (M 11 (7 * 1 + x1) 0) →
    ((0 ≤ y6_39 →
      inR (y6_39 * (M 6 1 1)) ∧
      ∀ y7_74 : Int, y7_74 = y6_39 * (M 6 1 1) →
      (0 ≤ x2 ∧ x2 < 3) ∧
      inR ((M 13 (7 * 1 + x1) x2) - y7_74) ∧
      (0 ≤ y5_30 ∧ y5_30 < 101) ∧
      (0 ≤ x3 ∧ x3 < 101) ∧
      inR ((M 17 i0 y5_30) - (M 17 i0 x3)) ∧
      inR (((M 13 (7 * 1 + x1) x2) - y7_74) - ((M 17 i0 y5_30) - (M 17 i0 x3))) ∧
      K (some (((M 13 (7 * 1 + x1) x2) - y7_74) - ((M 17 i0 y5_30) - (M 17 i0 x3)))) M) ∧
     (¬ (0 ≤ y6_39) →
      inR (-y6_39) ∧
      inR ((-y6_39) * (M 6 1 0)) ∧
      ∀ y7_74 : Int, y7_74 = (-y6_39) * (M 6 1 0) →
      (0 ≤ x2 ∧ x2 < 3) ∧
      inR ((M 13 (7 * 1 + x1) x2) - y7_74) ∧
      (0 ≤ y5_30 ∧ y5_30 < 101) ∧
      (0 ≤ x3 ∧ x3 < 101) ∧
      inR ((M 17 i0 y5_30) - (M 17 i0 x3)) ∧
      inR (((M 13 (7 * 1 + x1) x2) - y7_74) - ((M 17 i0 y5_30) - (M 17 i0 x3))) ∧
      K (some (((M 13 (7 * 1 + x1) x2) - y7_74) - ((M 17 i0 y5_30) - (M 17 i0 x3)))) M))) : V κ 8 M 0 [some (.inr (14, i0)), some (.inl x1), some (.inl x2), some (.inl x3), none, none, none, none] [] K := by
  refine v_aload_n C dX6_gainOf_0 rfl ?_
  refine v_get C dX6_gainOf_1 flX6_21 rfl (by decide) (by decide) (w := .inr (5, 1)) rfl ?_
  refine v_get C dX6_gainOf_4 flX6_60 rfl (by decide) (by decide) (w := .inr (10, 1)) rfl ?_
  refine v_iload_n C dX6_gainOf_7 rfl ?_
  refine v_aald C dX6_gainOf_8 h.1.1 h.1.2 ?_
  replace h := h.2
  refine v_astore C dX6_gainOf_9 (by decide) (Nat.le_of_ble_eq_true rfl) (lv' := [some (.inr (14, i0)), some (.inl x1), some (.inl x2), some (.inl x3), some (.inr (11, 7 * 1 + x1)), none, none, none]) rfl ?_
  refine v_iload_n C dX6_gainOf_11 rfl ?_
  refine v_aload C dX6_gainOf_12 rfl ?_
  refine v_get C dX6_gainOf_14 flX6_64 rfl (by decide) (by decide) (w := .inr (12, 7 * 1 + x1)) rfl ?_
  refine v_iload_n C dX6_gainOf_17 rfl ?_
  refine v_iald C dX6_gainOf_18 rfl h.1.1 h.1.2 ?_
  replace h := h.2
  refine v_iadd C dX6_gainOf_19 h.1 ?_
  replace h := h.2
  refine v_aload_n C dX6_gainOf_20 rfl ?_
  refine v_get C dX6_gainOf_21 flX6_21 rfl (by decide) (by decide) (w := .inr (5, 1)) rfl ?_
  refine v_get C dX6_gainOf_24 flX6_46 rfl (by decide) (by decide) (w := .inl (M 5 1 0)) rfl ?_
  refine v_min C dX6_gainOf_27 ivX6_72 (Nat.le_of_ble_eq_true rfl) ⟨by decide, by decide⟩ ?_
  refine v_nm (fun y5_30 ey5_30 => ?_)
  replace h := h y5_30 ey5_30
  refine v_istore C dX6_gainOf_30 (by decide) (Nat.le_of_ble_eq_true rfl) (lv' := [some (.inr (14, i0)), some (.inl x1), some (.inl x2), some (.inl x3), some (.inr (11, 7 * 1 + x1)), some (.inl y5_30), none, none]) rfl ?_
  refine v_iload_n C dX6_gainOf_32 rfl ?_
  refine v_aload C dX6_gainOf_33 rfl ?_
  refine v_get C dX6_gainOf_35 flX6_78 rfl (by decide) (by decide) (w := .inl (M 11 (7 * 1 + x1) 0)) rfl ?_
  refine v_isub C dX6_gainOf_38 h.1 ?_
  replace h := h.2
  refine v_nm (fun y6_39 ey6_39 => ?_)
  replace h := h y6_39 ey6_39
  refine v_istore C dX6_gainOf_39 (by decide) (Nat.le_of_ble_eq_true rfl) (lv' := [some (.inr (14, i0)), some (.inl x1), some (.inl x2), some (.inl x3), some (.inr (11, 7 * 1 + x1)), some (.inl y5_30), some (.inl y6_39), none]) rfl ?_
  refine v_iload C dX6_gainOf_41 rfl ?_
  refine v_if C dX6_gainOf_43 (tgt := 62) (by decide) (P := 0 ≤ y6_39) rfl (fun c43 => ?_) (fun c43 => ?_)
  · replace h := h.1 c43
    refine v_iload C dX6_gainOf_62 rfl ?_
    refine v_aload_n C dX6_gainOf_64 rfl ?_
    refine v_get C dX6_gainOf_65 flX6_21 rfl (by decide) (by decide) (w := .inr (5, 1)) rfl ?_
    refine v_get C dX6_gainOf_68 flX6_57 rfl (by decide) (by decide) (w := .inr (6, 1)) rfl ?_
    refine v_iconst C dX6_gainOf_71 (by decide) ?_
    refine v_iald C dX6_gainOf_72 rfl (by decide) (by decide) ?_
    refine v_imul C dX6_gainOf_73 h.1 ?_
    replace h := h.2
    refine v_nm (fun y7_74 ey7_74 => ?_)
    replace h := h y7_74 ey7_74
    refine v_istore C dX6_gainOf_74 (by decide) (Nat.le_of_ble_eq_true rfl) (lv' := [some (.inr (14, i0)), some (.inl x1), some (.inl x2), some (.inl x3), some (.inr (11, 7 * 1 + x1)), some (.inl y5_30), some (.inl y6_39), some (.inl y7_74)]) rfl ?_
    refine v_aload C dX6_gainOf_76 rfl ?_
    refine v_get C dX6_gainOf_78 flX6_81 rfl (by decide) (by decide) (w := .inr (13, 7 * 1 + x1)) rfl ?_
    refine v_iload_n C dX6_gainOf_81 rfl ?_
    refine v_iald C dX6_gainOf_82 rfl h.1.1 h.1.2 ?_
    replace h := h.2
    refine v_iload C dX6_gainOf_83 rfl ?_
    refine v_isub C dX6_gainOf_85 h.1 ?_
    replace h := h.2
    refine v_aload_n C dX6_gainOf_86 rfl ?_
    refine v_get C dX6_gainOf_87 flX6_18 rfl (by decide) (by decide) (w := .inr (17, i0)) rfl ?_
    refine v_iload C dX6_gainOf_90 rfl ?_
    refine v_iald C dX6_gainOf_92 rfl h.1.1 h.1.2 ?_
    replace h := h.2
    refine v_aload_n C dX6_gainOf_93 rfl ?_
    refine v_get C dX6_gainOf_94 flX6_18 rfl (by decide) (by decide) (w := .inr (17, i0)) rfl ?_
    refine v_iload_n C dX6_gainOf_97 rfl ?_
    refine v_iald C dX6_gainOf_98 rfl h.1.1 h.1.2 ?_
    replace h := h.2
    refine v_isub C dX6_gainOf_99 h.1 ?_
    replace h := h.2
    refine v_isub C dX6_gainOf_100 h.1 ?_
    replace h := h.2
    exact v_iret C dX6_gainOf_101 h
  · replace h := h.2 c43
    refine v_iload C dX6_gainOf_46 rfl ?_
    refine v_ineg C dX6_gainOf_48 h.1 ?_
    replace h := h.2
    refine v_aload_n C dX6_gainOf_49 rfl ?_
    refine v_get C dX6_gainOf_50 flX6_21 rfl (by decide) (by decide) (w := .inr (5, 1)) rfl ?_
    refine v_get C dX6_gainOf_53 flX6_57 rfl (by decide) (by decide) (w := .inr (6, 1)) rfl ?_
    refine v_iconst C dX6_gainOf_56 (by decide) ?_
    refine v_iald C dX6_gainOf_57 rfl (by decide) (by decide) ?_
    refine v_imul C dX6_gainOf_58 h.1 ?_
    replace h := h.2
    refine v_goto C dX6_gainOf_59 (tgt := 74) (by decide) ?_
    refine v_nm (fun y7_74 ey7_74 => ?_)
    replace h := h y7_74 ey7_74
    refine v_istore C dX6_gainOf_74 (by decide) (Nat.le_of_ble_eq_true rfl) (lv' := [some (.inr (14, i0)), some (.inl x1), some (.inl x2), some (.inl x3), some (.inr (11, 7 * 1 + x1)), some (.inl y5_30), some (.inl y6_39), some (.inl y7_74)]) rfl ?_
    refine v_aload C dX6_gainOf_76 rfl ?_
    refine v_get C dX6_gainOf_78 flX6_81 rfl (by decide) (by decide) (w := .inr (13, 7 * 1 + x1)) rfl ?_
    refine v_iload_n C dX6_gainOf_81 rfl ?_
    refine v_iald C dX6_gainOf_82 rfl h.1.1 h.1.2 ?_
    replace h := h.2
    refine v_iload C dX6_gainOf_83 rfl ?_
    refine v_isub C dX6_gainOf_85 h.1 ?_
    replace h := h.2
    refine v_aload_n C dX6_gainOf_86 rfl ?_
    refine v_get C dX6_gainOf_87 flX6_18 rfl (by decide) (by decide) (w := .inr (17, i0)) rfl ?_
    refine v_iload C dX6_gainOf_90 rfl ?_
    refine v_iald C dX6_gainOf_92 rfl h.1.1 h.1.2 ?_
    replace h := h.2
    refine v_aload_n C dX6_gainOf_93 rfl ?_
    refine v_get C dX6_gainOf_94 flX6_18 rfl (by decide) (by decide) (w := .inr (17, i0)) rfl ?_
    refine v_iload_n C dX6_gainOf_97 rfl ?_
    refine v_iald C dX6_gainOf_98 rfl h.1.1 h.1.2 ?_
    replace h := h.2
    refine v_isub C dX6_gainOf_99 h.1 ?_
    replace h := h.2
    refine v_isub C dX6_gainOf_100 h.1 ?_
    replace h := h.2
    exact v_iret C dX6_gainOf_101 h
abbrev spX6_gainOf (tr p v t : Int) (M : Mem) (K : Kont) : Prop := (WFf (cFilm M 1) ∧ TrB M tr ∧ (0 ≤ p ∧ p < M 5 1 7) ∧ (0 ≤ v ∧ v < M 11 (7 * 1 + p) 4) ∧ (0 ≤ t ∧ t < M 5 1 0)) ∧
  K (some (gainW (cFilm M 1) (M 17 tr) p v t)) M
theorem ctX6_gainOf : CtX6_gainOf spX6_gainOf := by
  refine ct_of (by decide) dmC (fun _ => Nat.le_of_ble_eq_true rfl) ?_
  intro κ a M K C oM h
  obtain ⟨tr, p, v, t⟩ := a
  refine sgX6_gainOf_0 C tr p v t ?_
  clear C
  dsimp only [spX6_gainOf] at h
  obtain ⟨⟨hf, hb, hp, hv, ht⟩, hk⟩ := h
  have hw := wf_pv hf hp.1 hp.2 hv.1 hv.2
  have hs := shift_rng hf hp.1 hp.2 ht.1 ht.2
  have hb1 := hb t
  have hb2 := hb (min (t + M 12 (7 * 1 + p) v) (M 5 1 0))
  simp only [cFilm, gainW] at hw hk hs hb2
  replace hb1 := hb1 (by omega) (by omega)
  replace hb2 := hb2 (by omega) (by omega)
  clear hf oM hb
  simp only [shiftW, cFilm] at hs hk
  by_cases c : t - M 11 (7 * 1 + p) 0 < 0
  · rw [if_pos c] at hs hk
    repeat' (first | refine ⟨?_, ?_⟩ | intro _)
    all_goals first | omega | (subst_vars; first | omega | exact hk)
  · rw [if_neg c] at hs hk
    repeat' (first | refine ⟨?_, ?_⟩ | intro _)
    all_goals first | omega | (subst_vars; first | omega | exact hk)
/-! ===== GapTellings$Track.soundCost ===== -/
abbrev rmX6_soundCost : Room := { frames := 0, cells := 0, slots := 0, locals := 0 }
abbrev argX6_soundCost (a : Int × Int) : List PV := [.inr (14, a.1), .inl a.2]
abbrev CtX6_soundCost (sp : Int → Int → Mem → Kont → Prop) : Prop := Ct yX6_soundCost cX6_soundCost 2 (some .int) rmX6_soundCost domC argX6_soundCost (fun a => sp a.1 a.2)
theorem dX6_soundCost_0 : decode cX6_soundCost 0 = .ok (.iload_n 1, 1) := by decide +kernel
theorem dX6_soundCost_1 : decode cX6_soundCost 1 = .ok (.iconst 2, 1) := by decide +kernel
theorem dX6_soundCost_2 : decode cX6_soundCost 2 = .ok (.iand, 1) := by decide +kernel
theorem dX6_soundCost_3 : decode cX6_soundCost 3 = .ok (.ifCond .eq 13, 3) := by decide +kernel
theorem dX6_soundCost_6 : decode cX6_soundCost 6 = .ok (.aload_n 0, 1) := by decide +kernel
theorem dX6_soundCost_7 : decode cX6_soundCost 7 = .ok (.getfield 21, 3) := by decide +kernel
theorem dX6_soundCost_10 : decode cX6_soundCost 10 = .ok (.getfield 57, 3) := by decide +kernel
theorem dX6_soundCost_13 : decode cX6_soundCost 13 = .ok (.iconst 2, 1) := by decide +kernel
theorem dX6_soundCost_14 : decode cX6_soundCost 14 = .ok (.iaload, 1) := by decide +kernel
theorem dX6_soundCost_15 : decode cX6_soundCost 15 = .ok (.ireturn, 1) := by decide +kernel
theorem dX6_soundCost_16 : decode cX6_soundCost 16 = .ok (.iload_n 1, 1) := by decide +kernel
theorem dX6_soundCost_17 : decode cX6_soundCost 17 = .ok (.iconst 4, 1) := by decide +kernel
theorem dX6_soundCost_18 : decode cX6_soundCost 18 = .ok (.iand, 1) := by decide +kernel
theorem dX6_soundCost_19 : decode cX6_soundCost 19 = .ok (.ifCond .eq 15, 3) := by decide +kernel
theorem dX6_soundCost_22 : decode cX6_soundCost 22 = .ok (.aload_n 0, 1) := by decide +kernel
theorem dX6_soundCost_23 : decode cX6_soundCost 23 = .ok (.getfield 21, 3) := by decide +kernel
theorem dX6_soundCost_26 : decode cX6_soundCost 26 = .ok (.getfield 57, 3) := by decide +kernel
theorem dX6_soundCost_29 : decode cX6_soundCost 29 = .ok (.iconst 3, 1) := by decide +kernel
theorem dX6_soundCost_30 : decode cX6_soundCost 30 = .ok (.iaload, 1) := by decide +kernel
theorem dX6_soundCost_31 : decode cX6_soundCost 31 = .ok (.goto 4, 3) := by decide +kernel
theorem dX6_soundCost_34 : decode cX6_soundCost 34 = .ok (.iconst 0, 1) := by decide +kernel
theorem dX6_soundCost_35 : decode cX6_soundCost 35 = .ok (.ireturn, 1) := by decide +kernel
set_option maxHeartbeats 4000000 in
set_option maxRecDepth 20000 in
theorem sgX6_soundCost_0 {κ : Kx} {K : Kont} {M : Mem} (C : Cx κ RX6 cX6_soundCost 2 (some .int) rmX6_soundCost domC) (i0 : Int) (x1 : Int)
    (h :
    (((bAnd x1 2) = 0 →
      (((bAnd x1 4) = 0 →
        K (some 0) M) ∧
       (¬ ((bAnd x1 4) = 0) →
        K (some (M 6 1 3)) M))) ∧
     (¬ ((bAnd x1 2) = 0) →
      K (some (M 6 1 2)) M))) : V κ 2 M 0 [some (.inr (14, i0)), some (.inl x1)] [] K := by
  refine v_iload_n C dX6_soundCost_0 rfl ?_
  refine v_iconst C dX6_soundCost_1 (by decide) ?_
  refine v_iand C dX6_soundCost_2 ?_
  refine v_if C dX6_soundCost_3 (tgt := 16) (by decide) (P := (bAnd x1 2) = 0) rfl (fun c3 => ?_) (fun c3 => ?_)
  · replace h := h.1 c3
    refine v_iload_n C dX6_soundCost_16 rfl ?_
    refine v_iconst C dX6_soundCost_17 (by decide) ?_
    refine v_iand C dX6_soundCost_18 ?_
    refine v_if C dX6_soundCost_19 (tgt := 34) (by decide) (P := (bAnd x1 4) = 0) rfl (fun c19 => ?_) (fun c19 => ?_)
    · replace h := h.1 c19
      refine v_iconst C dX6_soundCost_34 (by decide) ?_
      exact v_iret C dX6_soundCost_35 h
    · replace h := h.2 c19
      refine v_aload_n C dX6_soundCost_22 rfl ?_
      refine v_get C dX6_soundCost_23 flX6_21 rfl (by decide) (by decide) (w := .inr (5, 1)) rfl ?_
      refine v_get C dX6_soundCost_26 flX6_57 rfl (by decide) (by decide) (w := .inr (6, 1)) rfl ?_
      refine v_iconst C dX6_soundCost_29 (by decide) ?_
      refine v_iald C dX6_soundCost_30 rfl (by decide) (by decide) ?_
      refine v_goto C dX6_soundCost_31 (tgt := 35) (by decide) ?_
      exact v_iret C dX6_soundCost_35 h
  · replace h := h.2 c3
    refine v_aload_n C dX6_soundCost_6 rfl ?_
    refine v_get C dX6_soundCost_7 flX6_21 rfl (by decide) (by decide) (w := .inr (5, 1)) rfl ?_
    refine v_get C dX6_soundCost_10 flX6_57 rfl (by decide) (by decide) (w := .inr (6, 1)) rfl ?_
    refine v_iconst C dX6_soundCost_13 (by decide) ?_
    refine v_iald C dX6_soundCost_14 rfl (by decide) (by decide) ?_
    exact v_iret C dX6_soundCost_15 h
abbrev spX6_soundCost (i t : Int) (M : Mem) (K : Kont) : Prop := K (some (if bAnd t 2 ≠ 0 then M 6 1 2 else if bAnd t 4 ≠ 0 then M 6 1 3 else 0)) M
theorem ctX6_soundCost : CtX6_soundCost spX6_soundCost := by
  refine ct_of (by decide) dmC (fun _ => Nat.le_of_ble_eq_true rfl) ?_
  intro κ a M K C oM h
  obtain ⟨i, t⟩ := a
  refine sgX6_soundCost_0 C i t ?_
  clear C
  dsimp only [spX6_soundCost] at h
  grind
end
section
/-! ===== Track ===== -/
/-! ===== GapTellings$Track.ticksOpen ===== -/
abbrev rmX6_ticksOpen : Room := { frames := 2, cells := 0, slots := 0, locals := 46 }
abbrev argX6_ticksOpen (a : Int × Int × Int) : List PV := [.inr (14, a.1), .inl a.2.1, .inl a.2.2]
abbrev CtX6_ticksOpen (sp : Int → Int → Int → Mem → Kont → Prop) : Prop := Ct yX6_ticksOpen cX6_ticksOpen 5 (some .int) rmX6_ticksOpen domC argX6_ticksOpen (fun a => sp a.1 a.2.1 a.2.2)
theorem dX6_ticksOpen_0 : decode cX6_ticksOpen 0 = .ok (.iconst 0, 1) := by decide +kernel
theorem dX6_ticksOpen_1 : decode cX6_ticksOpen 1 = .ok (.istore_n 3, 1) := by decide +kernel
theorem dX6_ticksOpen_2 : decode cX6_ticksOpen 2 = .ok (.iconst 0, 1) := by decide +kernel
theorem dX6_ticksOpen_3 : decode cX6_ticksOpen 3 = .ok (.istore 4, 2) := by decide +kernel
theorem dX6_ticksOpen_5 : decode cX6_ticksOpen 5 = .ok (.iload 4, 2) := by decide +kernel
theorem dX6_ticksOpen_7 : decode cX6_ticksOpen 7 = .ok (.aload_n 0, 1) := by decide +kernel
theorem dX6_ticksOpen_8 : decode cX6_ticksOpen 8 = .ok (.getfield 21, 3) := by decide +kernel
theorem dX6_ticksOpen_11 : decode cX6_ticksOpen 11 = .ok (.getfield 46, 3) := by decide +kernel
theorem dX6_ticksOpen_14 : decode cX6_ticksOpen 14 = .ok (.if_icmp .ge 23, 3) := by decide +kernel
theorem dX6_ticksOpen_17 : decode cX6_ticksOpen 17 = .ok (.aload_n 0, 1) := by decide +kernel
theorem dX6_ticksOpen_18 : decode cX6_ticksOpen 18 = .ok (.iload_n 1, 1) := by decide +kernel
theorem dX6_ticksOpen_19 : decode cX6_ticksOpen 19 = .ok (.iload_n 2, 1) := by decide +kernel
theorem dX6_ticksOpen_20 : decode cX6_ticksOpen 20 = .ok (.iload 4, 2) := by decide +kernel
theorem dX6_ticksOpen_22 : decode cX6_ticksOpen 22 = .ok (.invokevirtual 84, 3) := by decide +kernel
theorem dX6_ticksOpen_25 : decode cX6_ticksOpen 25 = .ok (.ifCond .ne 6, 3) := by decide +kernel
theorem dX6_ticksOpen_28 : decode cX6_ticksOpen 28 = .ok (.iinc 3 1, 3) := by decide +kernel
theorem dX6_ticksOpen_31 : decode cX6_ticksOpen 31 = .ok (.iinc 4 1, 3) := by decide +kernel
theorem dX6_ticksOpen_34 : decode cX6_ticksOpen 34 = .ok (.goto (-29), 3) := by decide +kernel
theorem dX6_ticksOpen_37 : decode cX6_ticksOpen 37 = .ok (.iload_n 3, 1) := by decide +kernel
theorem dX6_ticksOpen_38 : decode cX6_ticksOpen 38 = .ok (.ireturn, 1) := by decide +kernel
theorem ivX6_84 : IV RX6 84 yX6_ownWhyNot cX6_ownWhyNot 6 (some .int) 3 := ⟨(tb_mem (t_in3 (List.mem_of_getElem? (i := 236) (by decide +kernel))) (by decide +kernel)), (tb_mem (t_in3 (List.mem_of_getElem? (i := 62) (by decide +kernel))) (by decide +kernel)), (tb_mem (t_in3 (List.mem_of_getElem? (i := 63) (by decide +kernel))) (by decide +kernel)), (tb_mem (t_in1 (List.mem_of_getElem? (i := 5) (by decide +kernel))) (by decide +kernel)), (tb_mem (t_in3 (List.mem_of_getElem? (i := 64) (by decide +kernel))) (by decide +kernel)), ⟨by decide +kernel, by decide +kernel, by decide +kernel⟩⟩
set_option maxHeartbeats 4000000 in
set_option maxRecDepth 20000 in
theorem sgX6_ticksOpen_0 {κ : Kx} {K : Kont} {M : Mem} (C : Cx κ RX6 cX6_ticksOpen 5 (some .int) rmX6_ticksOpen domC) (i0 : Int) (x1 : Int) (x2 : Int)
    (h :
    V κ 5 M 5 [some (.inr (14, i0)), some (.inl x1), some (.inl x2), some (.inl 0), some (.inl 0)] [] K) : V κ 5 M 0 [some (.inr (14, i0)), some (.inl x1), some (.inl x2), none, none] [] K := by
  refine v_iconst C dX6_ticksOpen_0 (by decide) ?_
  refine v_istore_n C dX6_ticksOpen_1 (by decide) (Nat.le_of_ble_eq_true rfl) (lv' := [some (.inr (14, i0)), some (.inl x1), some (.inl x2), some (.inl 0), none]) rfl ?_
  refine v_iconst C dX6_ticksOpen_2 (by decide) ?_
  refine v_istore C dX6_ticksOpen_3 (by decide) (Nat.le_of_ble_eq_true rfl) (lv' := [some (.inr (14, i0)), some (.inl x1), some (.inl x2), some (.inl 0), some (.inl 0)]) rfl ?_
  refine v_weak [some (.inr (14, i0)), some (.inl x1), some (.inl x2), some (.inl 0), some (.inl 0)] ⟨rfl, rfl, rfl, rfl, rfl, trivial⟩ ?_
  exact h
set_option maxHeartbeats 4000000 in
set_option maxRecDepth 20000 in
theorem sgX6_ticksOpen_5 {κ : Kx} {K : Kont} {M : Mem} (C : Cx κ RX6 cX6_ticksOpen 5 (some .int) rmX6_ticksOpen domC) (i0 : Int) (x1 : Int) (x2 : Int) (x3 : Int) (x4 : Int)
    (h :
    (((M 5 1 0) ≤ x4 →
      K (some x3) M) ∧
     (¬ ((M 5 1 0) ≤ x4) →
      spX6_ownWhyNot i0 x1 x2 x4 M (rI (fun r22 M22 =>
      ((r22 ≠ 0 →
        inR (x4 + 1) ∧
        V κ 5 M22 5 [some (.inr (14, i0)), some (.inl x1), some (.inl x2), some (.inl x3), some (.inl (x4 + 1))] [] K) ∧
       (¬ (r22 ≠ 0) →
        inR (x3 + 1) ∧
        inR (x4 + 1) ∧
        V κ 5 M22 5 [some (.inr (14, i0)), some (.inl x1), some (.inl x2), some (.inl (x3 + 1)), some (.inl (x4 + 1))] [] K))))))) : V κ 5 M 5 [some (.inr (14, i0)), some (.inl x1), some (.inl x2), some (.inl x3), some (.inl x4)] [] K := by
  refine v_iload C dX6_ticksOpen_5 rfl ?_
  refine v_aload_n C dX6_ticksOpen_7 rfl ?_
  refine v_get C dX6_ticksOpen_8 flX6_21 rfl (by decide) (by decide) (w := .inr (5, 1)) rfl ?_
  refine v_get C dX6_ticksOpen_11 flX6_46 rfl (by decide) (by decide) (w := .inl (M 5 1 0)) rfl ?_
  refine v_icmp C dX6_ticksOpen_14 (tgt := 37) (by decide) (P := (M 5 1 0) ≤ x4) rfl (fun c14 => ?_) (fun c14 => ?_)
  · replace h := h.1 c14
    refine v_iload_n C dX6_ticksOpen_37 rfl ?_
    exact v_iret C dX6_ticksOpen_38 h
  · replace h := h.2 c14
    refine v_aload_n C dX6_ticksOpen_17 rfl ?_
    refine v_iload_n C dX6_ticksOpen_18 rfl ?_
    refine v_iload_n C dX6_ticksOpen_19 rfl ?_
    refine v_iload C dX6_ticksOpen_20 rfl ?_
    refine v_invV C ctX6_ownWhyNot dX6_ticksOpen_22 ivX6_84 ⟨by decide, by decide, rfl, rfl⟩ ((i0, x1, x2, x4) : Int × Int × Int × Int) (As := [.inl x1, .inl x2, .inl x4]) rfl rfl rfl (by decide) rfl (st := []) rfl (Nat.le_of_ble_eq_true rfl) h (fun o M22 oM22 io22 h => ?_)
    obtain ⟨r22, rfl, h⟩ := rI_out h
    refine v_push ?_
    refine v_if C dX6_ticksOpen_25 (tgt := 31) (by decide) (P := r22 ≠ 0) rfl (fun c25 => ?_) (fun c25 => ?_)
    · replace h := h.1 c25
      refine v_iinc C dX6_ticksOpen_31 (by decide) rfl h.1 (lv' := [some (.inr (14, i0)), some (.inl x1), some (.inl x2), some (.inl x3), some (.inl (x4 + 1))]) rfl ?_
      replace h := h.2
      refine v_goto C dX6_ticksOpen_34 (tgt := 5) (by decide) ?_
      refine v_weak [some (.inr (14, i0)), some (.inl x1), some (.inl x2), some (.inl x3), some (.inl (x4 + 1))] ⟨rfl, rfl, rfl, rfl, rfl, trivial⟩ ?_
      exact h
    · replace h := h.2 c25
      refine v_iinc C dX6_ticksOpen_28 (by decide) rfl h.1 (lv' := [some (.inr (14, i0)), some (.inl x1), some (.inl x2), some (.inl (x3 + 1)), some (.inl x4)]) rfl ?_
      replace h := h.2
      refine v_iinc C dX6_ticksOpen_31 (by decide) rfl h.1 (lv' := [some (.inr (14, i0)), some (.inl x1), some (.inl x2), some (.inl (x3 + 1)), some (.inl (x4 + 1))]) rfl ?_
      replace h := h.2
      refine v_goto C dX6_ticksOpen_34 (tgt := 5) (by decide) ?_
      refine v_weak [some (.inr (14, i0)), some (.inl x1), some (.inl x2), some (.inl (x3 + 1)), some (.inl (x4 + 1))] ⟨rfl, rfl, rfl, rfl, rfl, trivial⟩ ?_
      exact h
def opN (F : Film) (S : Int → Int) (p v : Int) : Nat → Int := sumN (fun t => if ownW F S p v t = 0 then 1 else 0)
abbrev spX6_ticksOpen (tr p v : Int) (M : Mem) (K : Kont) : Prop := (WFf (cFilm M 1) ∧ (0 ≤ p ∧ p < M 5 1 7) ∧ (0 ≤ v ∧ v < M 11 (7 * 1 + p) 4)) ∧
  K (some (opN (cFilm M 1) (M 16 tr) p v (M 5 1 0).toNat)) M
theorem opN_rng (F : Film) (S : Int → Int) (p v : Int) (n : Nat) : 0 ≤ opN F S p v n ∧ opN F S p v n ≤ n := by
  have := sum_rng (f := fun t => if ownW F S p v t = 0 then 1 else 0) (B := 1) (fun t => by split <;> omega) n
  unfold opN
  omega
theorem ctX6_ticksOpen : CtX6_ticksOpen spX6_ticksOpen := by
  refine ct_of (by decide) dmC (fun _ => Nat.le_of_ble_eq_true rfl) ?_
  intro κ a M K C oM h
  obtain ⟨tr, p, v⟩ := a
  refine sgX6_ticksOpen_0 C tr p v ?_
  dsimp only [spX6_ticksOpen] at h
  obtain ⟨⟨hf, hp, hv⟩, hk⟩ := h
  have hT := hf.1
  simp only [cFilm] at hT
  have loop : ∀ (n : Nat) (t o : Int), 0 ≤ t → t + n = M 5 1 0 → o = opN (cFilm M 1) (M 16 tr) p v t.toNat →
      V κ 5 M 5 [some (.inr (14, tr)), some (.inl p), some (.inl v), some (.inl o), some (.inl t)] [] K := by
    intro n
    induction n with
    | zero =>
      intro t o h0 hn ho
      refine sgX6_ticksOpen_5 C tr p v o t ⟨fun c => ?_, fun c => absurd (by omega) c⟩
      have e : t = M 5 1 0 := by omega
      rw [ho, e]
      exact hk
    | succ n ih =>
      intro t o h0 hn ho
      have hr := opN_rng (cFilm M 1) (M 16 tr) p v t.toNat
      refine sgX6_ticksOpen_5 C tr p v o t ⟨fun c => absurd c (by omega), fun c => ⟨⟨hf, hp, hv, h0, by omega⟩, fun c2 => ⟨by omega, ?_⟩, fun c2 => ⟨by omega, by omega, ?_⟩⟩⟩
      · refine ih (t + 1) o (by omega) (by omega) ?_
        rw [ho, toNat_s h0]
        show _ = opN _ _ _ _ t.toNat + (if ownW _ _ _ _ (t.toNat : Int) = 0 then 1 else 0)
        rw [oi_nat h0, if_neg c2]
        omega
      · refine ih (t + 1) (o + 1) (by omega) (by omega) ?_
        rw [ho, toNat_s h0]
        show _ = opN _ _ _ _ t.toNat + (if ownW _ _ _ _ (t.toNat : Int) = 0 then 1 else 0)
        rw [oi_nat h0, if_pos (by omega)]
  exact loop (M 5 1 0).toNat 0 0 (by omega) (by omega) rfl
/-! ===== GapTellings$Track.greatestGain ===== -/
abbrev rmX6_greatestGain : Room := { frames := 2, cells := 0, slots := 0, locals := 48 }
abbrev argX6_greatestGain (a : Int × Int × Int) : List PV := [.inr (14, a.1), .inl a.2.1, .inl a.2.2]
abbrev CtX6_greatestGain (sp : Int → Int → Int → Mem → Kont → Prop) : Prop := Ct yX6_greatestGain cX6_greatestGain 5 (some .int) rmX6_greatestGain domC argX6_greatestGain (fun a => sp a.1 a.2.1 a.2.2)
theorem dX6_greatestGain_0 : decode cX6_greatestGain 0 = .ok (.bipush (-4), 2) := by decide +kernel
theorem dX6_greatestGain_2 : decode cX6_greatestGain 2 = .ok (.istore_n 3, 1) := by decide +kernel
theorem dX6_greatestGain_3 : decode cX6_greatestGain 3 = .ok (.iconst 0, 1) := by decide +kernel
theorem dX6_greatestGain_4 : decode cX6_greatestGain 4 = .ok (.istore 4, 2) := by decide +kernel
theorem dX6_greatestGain_6 : decode cX6_greatestGain 6 = .ok (.iload 4, 2) := by decide +kernel
theorem dX6_greatestGain_8 : decode cX6_greatestGain 8 = .ok (.aload_n 0, 1) := by decide +kernel
theorem dX6_greatestGain_9 : decode cX6_greatestGain 9 = .ok (.getfield 21, 3) := by decide +kernel
theorem dX6_greatestGain_12 : decode cX6_greatestGain 12 = .ok (.getfield 46, 3) := by decide +kernel
theorem dX6_greatestGain_15 : decode cX6_greatestGain 15 = .ok (.if_icmp .ge 36, 3) := by decide +kernel
theorem dX6_greatestGain_18 : decode cX6_greatestGain 18 = .ok (.aload_n 0, 1) := by decide +kernel
theorem dX6_greatestGain_19 : decode cX6_greatestGain 19 = .ok (.iload_n 1, 1) := by decide +kernel
theorem dX6_greatestGain_20 : decode cX6_greatestGain 20 = .ok (.iload_n 2, 1) := by decide +kernel
theorem dX6_greatestGain_21 : decode cX6_greatestGain 21 = .ok (.iload 4, 2) := by decide +kernel
theorem dX6_greatestGain_23 : decode cX6_greatestGain 23 = .ok (.invokevirtual 84, 3) := by decide +kernel
theorem dX6_greatestGain_26 : decode cX6_greatestGain 26 = .ok (.ifCond .ne 19, 3) := by decide +kernel
theorem dX6_greatestGain_29 : decode cX6_greatestGain 29 = .ok (.iload_n 3, 1) := by decide +kernel
theorem dX6_greatestGain_30 : decode cX6_greatestGain 30 = .ok (.aload_n 0, 1) := by decide +kernel
theorem dX6_greatestGain_31 : decode cX6_greatestGain 31 = .ok (.iload_n 1, 1) := by decide +kernel
theorem dX6_greatestGain_32 : decode cX6_greatestGain 32 = .ok (.iload_n 2, 1) := by decide +kernel
theorem dX6_greatestGain_33 : decode cX6_greatestGain 33 = .ok (.iload 4, 2) := by decide +kernel
theorem dX6_greatestGain_35 : decode cX6_greatestGain 35 = .ok (.invokevirtual 88, 3) := by decide +kernel
theorem dX6_greatestGain_38 : decode cX6_greatestGain 38 = .ok (.ldc 91, 2) := by decide +kernel
theorem dX6_greatestGain_40 : decode cX6_greatestGain 40 = .ok (.iadd, 1) := by decide +kernel
theorem dX6_greatestGain_41 : decode cX6_greatestGain 41 = .ok (.invokestatic 92, 3) := by decide +kernel
theorem dX6_greatestGain_44 : decode cX6_greatestGain 44 = .ok (.istore_n 3, 1) := by decide +kernel
theorem dX6_greatestGain_45 : decode cX6_greatestGain 45 = .ok (.iinc 4 1, 3) := by decide +kernel
theorem dX6_greatestGain_48 : decode cX6_greatestGain 48 = .ok (.goto (-42), 3) := by decide +kernel
theorem dX6_greatestGain_51 : decode cX6_greatestGain 51 = .ok (.iload_n 3, 1) := by decide +kernel
theorem dX6_greatestGain_52 : decode cX6_greatestGain 52 = .ok (.ireturn, 1) := by decide +kernel
theorem ivX6_88 : IV RX6 88 yX6_gainOf cX6_gainOf 8 (some .int) 3 := ⟨(tb_mem (t_in4 (List.mem_of_getElem? (i := 1) (by decide +kernel))) (by decide +kernel)), (tb_mem (t_in3 (List.mem_of_getElem? (i := 120) (by decide +kernel))) (by decide +kernel)), (tb_mem (t_in3 (List.mem_of_getElem? (i := 121) (by decide +kernel))) (by decide +kernel)), (tb_mem (t_in1 (List.mem_of_getElem? (i := 5) (by decide +kernel))) (by decide +kernel)), (tb_mem (t_in3 (List.mem_of_getElem? (i := 122) (by decide +kernel))) (by decide +kernel)), ⟨by decide +kernel, by decide +kernel, by decide +kernel⟩⟩
theorem csX6_91 : Cond.constant RX6 91 (Int32.ofInt (100000)) ∈ tb := (tb_mem (t_in4 (List.mem_of_getElem? (i := 2) (by decide +kernel))) (by decide +kernel))
theorem ivX6_92 : IMax RX6 92 := ⟨(tb_mem (t_in4 (List.mem_of_getElem? (i := 3) (by decide +kernel))) (by decide +kernel)), (tb_mem (t_in2 (List.mem_of_getElem? (i := 117) (by decide +kernel))) (by decide +kernel)), (tb_mem (t_in1 (List.mem_of_getElem? (i := 11) (by decide +kernel))) (by decide +kernel)), (tb_mem (t_in2 (List.mem_of_getElem? (i := 118) (by decide +kernel))) (by decide +kernel))⟩
set_option maxHeartbeats 4000000 in
set_option maxRecDepth 20000 in
theorem sgX6_greatestGain_0 {κ : Kx} {K : Kont} {M : Mem} (C : Cx κ RX6 cX6_greatestGain 5 (some .int) rmX6_greatestGain domC) (i0 : Int) (x1 : Int) (x2 : Int)
    (h :
    V κ 5 M 6 [some (.inr (14, i0)), some (.inl x1), some (.inl x2), some (.inl (-4)), some (.inl 0)] [] K) : V κ 5 M 0 [some (.inr (14, i0)), some (.inl x1), some (.inl x2), none, none] [] K := by
  refine v_bipush C dX6_greatestGain_0 (by decide) (by decide) ?_
  refine v_istore_n C dX6_greatestGain_2 (by decide) (Nat.le_of_ble_eq_true rfl) (lv' := [some (.inr (14, i0)), some (.inl x1), some (.inl x2), some (.inl (-4)), none]) rfl ?_
  refine v_iconst C dX6_greatestGain_3 (by decide) ?_
  refine v_istore C dX6_greatestGain_4 (by decide) (Nat.le_of_ble_eq_true rfl) (lv' := [some (.inr (14, i0)), some (.inl x1), some (.inl x2), some (.inl (-4)), some (.inl 0)]) rfl ?_
  refine v_weak [some (.inr (14, i0)), some (.inl x1), some (.inl x2), some (.inl (-4)), some (.inl 0)] ⟨rfl, rfl, rfl, rfl, rfl, trivial⟩ ?_
  exact h
set_option maxHeartbeats 4000000 in
set_option maxRecDepth 20000 in
theorem sgX6_greatestGain_6 {κ : Kx} {K : Kont} {M : Mem} (C : Cx κ RX6 cX6_greatestGain 5 (some .int) rmX6_greatestGain domC) (i0 : Int) (x1 : Int) (x2 : Int) (x3 : Int) (x4 : Int)
    (h :
    (((M 5 1 0) ≤ x4 →
      K (some x3) M) ∧
     (¬ ((M 5 1 0) ≤ x4) →
      spX6_ownWhyNot i0 x1 x2 x4 M (rI (fun r23 M23 =>
      ((r23 ≠ 0 →
        inR (x4 + 1) ∧
        V κ 5 M23 6 [some (.inr (14, i0)), some (.inl x1), some (.inl x2), some (.inl x3), some (.inl (x4 + 1))] [] K) ∧
       (¬ (r23 ≠ 0) →
        spX6_gainOf i0 x1 x2 x4 M23 (rI (fun r35 M35 =>
        inR (r35 + 100000) ∧
        ∀ y3_44 : Int, y3_44 = max x3 (r35 + 100000) →
        inR (x4 + 1) ∧
        V κ 5 M35 6 [some (.inr (14, i0)), some (.inl x1), some (.inl x2), some (.inl y3_44), some (.inl (x4 + 1))] [] K))))))))) : V κ 5 M 6 [some (.inr (14, i0)), some (.inl x1), some (.inl x2), some (.inl x3), some (.inl x4)] [] K := by
  refine v_iload C dX6_greatestGain_6 rfl ?_
  refine v_aload_n C dX6_greatestGain_8 rfl ?_
  refine v_get C dX6_greatestGain_9 flX6_21 rfl (by decide) (by decide) (w := .inr (5, 1)) rfl ?_
  refine v_get C dX6_greatestGain_12 flX6_46 rfl (by decide) (by decide) (w := .inl (M 5 1 0)) rfl ?_
  refine v_icmp C dX6_greatestGain_15 (tgt := 51) (by decide) (P := (M 5 1 0) ≤ x4) rfl (fun c15 => ?_) (fun c15 => ?_)
  · replace h := h.1 c15
    refine v_iload_n C dX6_greatestGain_51 rfl ?_
    exact v_iret C dX6_greatestGain_52 h
  · replace h := h.2 c15
    refine v_aload_n C dX6_greatestGain_18 rfl ?_
    refine v_iload_n C dX6_greatestGain_19 rfl ?_
    refine v_iload_n C dX6_greatestGain_20 rfl ?_
    refine v_iload C dX6_greatestGain_21 rfl ?_
    refine v_invV C ctX6_ownWhyNot dX6_greatestGain_23 ivX6_84 ⟨by decide, by decide, rfl, rfl⟩ ((i0, x1, x2, x4) : Int × Int × Int × Int) (As := [.inl x1, .inl x2, .inl x4]) rfl rfl rfl (by decide) rfl (st := []) rfl (Nat.le_of_ble_eq_true rfl) h (fun o M23 oM23 io23 h => ?_)
    obtain ⟨r23, rfl, h⟩ := rI_out h
    refine v_push ?_
    refine v_if C dX6_greatestGain_26 (tgt := 45) (by decide) (P := r23 ≠ 0) rfl (fun c26 => ?_) (fun c26 => ?_)
    · replace h := h.1 c26
      refine v_iinc C dX6_greatestGain_45 (by decide) rfl h.1 (lv' := [some (.inr (14, i0)), some (.inl x1), some (.inl x2), some (.inl x3), some (.inl (x4 + 1))]) rfl ?_
      replace h := h.2
      refine v_goto C dX6_greatestGain_48 (tgt := 6) (by decide) ?_
      refine v_weak [some (.inr (14, i0)), some (.inl x1), some (.inl x2), some (.inl x3), some (.inl (x4 + 1))] ⟨rfl, rfl, rfl, rfl, rfl, trivial⟩ ?_
      exact h
    · replace h := h.2 c26
      refine v_iload_n C dX6_greatestGain_29 rfl ?_
      refine v_aload_n C dX6_greatestGain_30 rfl ?_
      refine v_iload_n C dX6_greatestGain_31 rfl ?_
      refine v_iload_n C dX6_greatestGain_32 rfl ?_
      refine v_iload C dX6_greatestGain_33 rfl ?_
      refine v_invV C ctX6_gainOf dX6_greatestGain_35 ivX6_88 ⟨by decide, by decide, rfl, rfl⟩ ((i0, x1, x2, x4) : Int × Int × Int × Int) (As := [.inl x1, .inl x2, .inl x4]) rfl rfl rfl (by decide) rfl (st := [.inl x3]) rfl (Nat.le_of_ble_eq_true rfl) h (fun o M35 oM35 io35 h => ?_)
      obtain ⟨r35, rfl, h⟩ := rI_out h
      refine v_push ?_
      refine v_ldc C dX6_greatestGain_38 csX6_91 (by decide) ?_
      refine v_iadd C dX6_greatestGain_40 h.1 ?_
      replace h := h.2
      refine v_max C dX6_greatestGain_41 ivX6_92 (Nat.le_of_ble_eq_true rfl) ⟨by decide, by decide⟩ ?_
      refine v_nm (fun y3_44 ey3_44 => ?_)
      replace h := h y3_44 ey3_44
      refine v_istore_n C dX6_greatestGain_44 (by decide) (Nat.le_of_ble_eq_true rfl) (lv' := [some (.inr (14, i0)), some (.inl x1), some (.inl x2), some (.inl y3_44), some (.inl x4)]) rfl ?_
      refine v_iinc C dX6_greatestGain_45 (by decide) rfl h.1 (lv' := [some (.inr (14, i0)), some (.inl x1), some (.inl x2), some (.inl y3_44), some (.inl (x4 + 1))]) rfl ?_
      replace h := h.2
      refine v_goto C dX6_greatestGain_48 (tgt := 6) (by decide) ?_
      refine v_weak [some (.inr (14, i0)), some (.inl x1), some (.inl x2), some (.inl y3_44), some (.inl (x4 + 1))] ⟨rfl, rfl, rfl, rfl, rfl, trivial⟩ ?_
      exact h
def ggN (F : Film) (S Q : Int → Int) (p v : Int) : Nat → Int
  | 0 => -4
  | n + 1 => if ownW F S p v n = 0 then max (ggN F S Q p v n) (gainW F Q p v n + 100000) else ggN F S Q p v n
theorem gain_rng {M : Mem} {tr : Int} (hf : WFf (cFilm M 1)) (hb : TrB M tr) {p v t : Int} (hp : 0 ≤ p) (hp2 : p < M 5 1 7) (hv : 0 ≤ v) (hv2 : v < M 11 (7 * 1 + p) 4) (ht : 0 ≤ t) (ht2 : t < M 5 1 0) :
    -2000 ≤ gainW (cFilm M 1) (M 17 tr) p v t ∧ gainW (cFilm M 1) (M 17 tr) p v t ≤ 2000 := by
  have hw := wf_pv hf hp hp2 hv hv2
  have hs := shift_rng hf hp hp2 ht ht2
  unfold gainW
  have hw2 := hw
  simp only [cFilm] at hw2
  have hb1 := hb t (by omega) (by omega)
  have hb2 := hb (min (t + cFilm M 1 13 p v) (cFilm M 1 0 0 0)) (by omega) (by omega)
  omega
abbrev spX6_greatestGain (tr p v : Int) (M : Mem) (K : Kont) : Prop := (WFf (cFilm M 1) ∧ TrB M tr ∧ (0 ≤ p ∧ p < M 5 1 7) ∧ (0 ≤ v ∧ v < M 11 (7 * 1 + p) 4)) ∧
  K (some (ggN (cFilm M 1) (M 16 tr) (M 17 tr) p v (M 5 1 0).toNat)) M
theorem ctX6_greatestGain : CtX6_greatestGain spX6_greatestGain := by
  refine ct_of (by decide) dmC (fun _ => Nat.le_of_ble_eq_true rfl) ?_
  intro κ a M K C oM h
  obtain ⟨tr, p, v⟩ := a
  refine sgX6_greatestGain_0 C tr p v ?_
  dsimp only [spX6_greatestGain] at h
  obtain ⟨⟨hf, hb, hp, hv⟩, hk⟩ := h
  have hT := hf.1
  simp only [cFilm] at hT
  have loop : ∀ (n : Nat) (t o : Int), 0 ≤ t → t + n = M 5 1 0 → o = ggN (cFilm M 1) (M 16 tr) (M 17 tr) p v t.toNat →
      V κ 5 M 6 [some (.inr (14, tr)), some (.inl p), some (.inl v), some (.inl o), some (.inl t)] [] K := by
    intro n
    induction n with
    | zero =>
      intro t o h0 hn ho
      refine sgX6_greatestGain_6 C tr p v o t ⟨fun c => ?_, fun c => absurd (by omega) c⟩
      have e : t = M 5 1 0 := by omega
      rw [ho, e]
      exact hk
    | succ n ih =>
      intro t o h0 hn ho
      have hg := gain_rng hf hb hp.1 hp.2 hv.1 hv.2 h0 (by omega)
      refine sgX6_greatestGain_6 C tr p v o t ⟨fun c => absurd c (by omega), fun c => ⟨⟨hf, hp, hv, h0, by omega⟩, fun c2 => ⟨by omega, ?_⟩, fun c2 => ⟨⟨hf, hb, hp, hv, h0, by omega⟩, by omega, fun y ey => ⟨by omega, ?_⟩⟩⟩⟩
      · refine ih (t + 1) o (by omega) (by omega) ?_
        rw [ho, toNat_s h0]
        show _ = if ownW _ _ _ _ (t.toNat : Int) = 0 then _ else _
        rw [oi_nat h0, if_neg c2]
      · refine ih (t + 1) y (by omega) (by omega) ?_
        rw [ey, ho, toNat_s h0]
        show _ = if ownW _ _ _ _ (t.toNat : Int) = 0 then _ else _
        rw [oi_nat h0, if_pos (by omega)]
  exact loop (M 5 1 0).toNat 0 (-4) (by omega) (by omega) rfl
/-! ===== GapTellings$Track.silenceBeginsAt ===== -/
abbrev rmX6_silenceBeginsAt : Room := { frames := 1, cells := 0, slots := 0, locals := 21 }
abbrev argX6_silenceBeginsAt (a : Int × Int) : List PV := [.inr (14, a.1), .inl a.2]
abbrev CtX6_silenceBeginsAt (sp : Int → Int → Mem → Kont → Prop) : Prop := Ct yX6_silenceBeginsAt cX6_silenceBeginsAt 2 (some .boolean) rmX6_silenceBeginsAt domC argX6_silenceBeginsAt (fun a => sp a.1 a.2)
theorem dX6_silenceBeginsAt_0 : decode cX6_silenceBeginsAt 0 = .ok (.aload_n 0, 1) := by decide +kernel
theorem dX6_silenceBeginsAt_1 : decode cX6_silenceBeginsAt 1 = .ok (.iload_n 1, 1) := by decide +kernel
theorem dX6_silenceBeginsAt_2 : decode cX6_silenceBeginsAt 2 = .ok (.invokevirtual 49, 3) := by decide +kernel
theorem dX6_silenceBeginsAt_5 : decode cX6_silenceBeginsAt 5 = .ok (.ifCond .ne 21, 3) := by decide +kernel
theorem dX6_silenceBeginsAt_8 : decode cX6_silenceBeginsAt 8 = .ok (.iload_n 1, 1) := by decide +kernel
theorem dX6_silenceBeginsAt_9 : decode cX6_silenceBeginsAt 9 = .ok (.ifCond .eq 13, 3) := by decide +kernel
theorem dX6_silenceBeginsAt_12 : decode cX6_silenceBeginsAt 12 = .ok (.aload_n 0, 1) := by decide +kernel
theorem dX6_silenceBeginsAt_13 : decode cX6_silenceBeginsAt 13 = .ok (.iload_n 1, 1) := by decide +kernel
theorem dX6_silenceBeginsAt_14 : decode cX6_silenceBeginsAt 14 = .ok (.iconst 1, 1) := by decide +kernel
theorem dX6_silenceBeginsAt_15 : decode cX6_silenceBeginsAt 15 = .ok (.isub, 1) := by decide +kernel
theorem dX6_silenceBeginsAt_16 : decode cX6_silenceBeginsAt 16 = .ok (.invokevirtual 49, 3) := by decide +kernel
theorem dX6_silenceBeginsAt_19 : decode cX6_silenceBeginsAt 19 = .ok (.ifCond .eq 7, 3) := by decide +kernel
theorem dX6_silenceBeginsAt_22 : decode cX6_silenceBeginsAt 22 = .ok (.iconst 1, 1) := by decide +kernel
theorem dX6_silenceBeginsAt_23 : decode cX6_silenceBeginsAt 23 = .ok (.goto 4, 3) := by decide +kernel
theorem dX6_silenceBeginsAt_26 : decode cX6_silenceBeginsAt 26 = .ok (.iconst 0, 1) := by decide +kernel
theorem dX6_silenceBeginsAt_27 : decode cX6_silenceBeginsAt 27 = .ok (.ireturn, 1) := by decide +kernel
theorem ivX6_49 : IV RX6 49 yX6_hasSpeech cX6_hasSpeech 2 (some .boolean) 1 := ⟨(tb_mem (t_in2 (List.mem_of_getElem? (i := 207) (by decide +kernel))) (by decide +kernel)), (tb_mem (t_in2 (List.mem_of_getElem? (i := 208) (by decide +kernel))) (by decide +kernel)), (tb_mem (t_in2 (List.mem_of_getElem? (i := 209) (by decide +kernel))) (by decide +kernel)), (tb_mem (t_in1 (List.mem_of_getElem? (i := 5) (by decide +kernel))) (by decide +kernel)), (tb_mem (t_in2 (List.mem_of_getElem? (i := 210) (by decide +kernel))) (by decide +kernel)), ⟨by decide +kernel, by decide +kernel, by decide +kernel⟩⟩
set_option maxHeartbeats 4000000 in
set_option maxRecDepth 20000 in
theorem sgX6_silenceBeginsAt_0 {κ : Kx} {K : Kont} {M : Mem} (C : Cx κ RX6 cX6_silenceBeginsAt 2 (some .boolean) rmX6_silenceBeginsAt domC) (i0 : Int) (x1 : Int)
    (h :
    spX6_hasSpeech i0 x1 M (rI (fun r2 M2 =>
    ((r2 ≠ 0 →
      K (some 0) M2) ∧
     (¬ (r2 ≠ 0) →
      ((x1 = 0 →
        K (some 1) M2) ∧
       (¬ (x1 = 0) →
        inR (x1 - 1) ∧
        spX6_hasSpeech i0 (x1 - 1) M2 (rI (fun r16 M16 =>
        ((r16 = 0 →
          K (some 0) M16) ∧
         (¬ (r16 = 0) →
          K (some 1) M16))))))))))) : V κ 2 M 0 [some (.inr (14, i0)), some (.inl x1)] [] K := by
  refine v_aload_n C dX6_silenceBeginsAt_0 rfl ?_
  refine v_iload_n C dX6_silenceBeginsAt_1 rfl ?_
  refine v_invV C ctX6_hasSpeech dX6_silenceBeginsAt_2 ivX6_49 ⟨by decide, by decide, rfl, rfl⟩ ((i0, x1) : Int × Int) (As := [.inl x1]) rfl rfl rfl (by decide) rfl (st := []) rfl (Nat.le_of_ble_eq_true rfl) h (fun o M2 oM2 io2 h => ?_)
  obtain ⟨r2, rfl, h⟩ := rI_out h
  refine v_push ?_
  refine v_if C dX6_silenceBeginsAt_5 (tgt := 26) (by decide) (P := r2 ≠ 0) rfl (fun c5 => ?_) (fun c5 => ?_)
  · replace h := h.1 c5
    refine v_iconst C dX6_silenceBeginsAt_26 (by decide) ?_
    exact v_zret C dX6_silenceBeginsAt_27 (by decide) h
  · replace h := h.2 c5
    refine v_iload_n C dX6_silenceBeginsAt_8 rfl ?_
    refine v_if C dX6_silenceBeginsAt_9 (tgt := 22) (by decide) (P := x1 = 0) rfl (fun c9 => ?_) (fun c9 => ?_)
    · replace h := h.1 c9
      refine v_iconst C dX6_silenceBeginsAt_22 (by decide) ?_
      refine v_goto C dX6_silenceBeginsAt_23 (tgt := 27) (by decide) ?_
      exact v_zret C dX6_silenceBeginsAt_27 (by decide) h
    · replace h := h.2 c9
      refine v_aload_n C dX6_silenceBeginsAt_12 rfl ?_
      refine v_iload_n C dX6_silenceBeginsAt_13 rfl ?_
      refine v_iconst C dX6_silenceBeginsAt_14 (by decide) ?_
      refine v_isub C dX6_silenceBeginsAt_15 h.1 ?_
      replace h := h.2
      refine v_invV C ctX6_hasSpeech dX6_silenceBeginsAt_16 ivX6_49 ⟨by decide, by decide, rfl, rfl⟩ ((i0, x1 - 1) : Int × Int) (As := [.inl (x1 - 1)]) rfl rfl rfl (by decide) rfl (st := []) rfl (Nat.le_of_ble_eq_true rfl) h (fun o M16 oM16 io16 h => ?_)
      obtain ⟨r16, rfl, h⟩ := rI_out h
      refine v_push ?_
      refine v_if C dX6_silenceBeginsAt_19 (tgt := 26) (by decide) (P := r16 = 0) rfl (fun c19 => ?_) (fun c19 => ?_)
      · replace h := h.1 c19
        refine v_iconst C dX6_silenceBeginsAt_26 (by decide) ?_
        exact v_zret C dX6_silenceBeginsAt_27 (by decide) h
      · replace h := h.2 c19
        refine v_iconst C dX6_silenceBeginsAt_22 (by decide) ?_
        refine v_goto C dX6_silenceBeginsAt_23 (tgt := 27) (by decide) ?_
        exact v_zret C dX6_silenceBeginsAt_27 (by decide) h
def silB (X : Int → Int) (t : Int) : Int := if bAnd (X t) 1 = 0 ∧ (t = 0 ∨ bAnd (X (t - 1)) 1 ≠ 0) then 1 else 0
abbrev spX6_silenceBeginsAt (tr t : Int) (M : Mem) (K : Kont) : Prop := (0 ≤ t ∧ t < 100) ∧ K (some (silB (M 15 tr) t)) M
theorem ctX6_silenceBeginsAt : CtX6_silenceBeginsAt spX6_silenceBeginsAt := by
  refine ct_of (by decide) dmC (fun _ => Nat.le_of_ble_eq_true rfl) ?_
  intro κ a M K C oM h
  obtain ⟨tr, t⟩ := a
  refine sgX6_silenceBeginsAt_0 C tr t ?_
  clear C
  dsimp only [spX6_silenceBeginsAt] at h
  unfold silB at h
  obtain ⟨ht, hk⟩ := h
  clear oM κ
  grind (splits := 20) [rI]
/-! ===== GapTellings$Track.silenceCount ===== -/
abbrev rmX6_silenceCount : Room := { frames := 2, cells := 0, slots := 0, locals := 42 }
abbrev argX6_silenceCount (a : Int) : List PV := [.inr (14, a)]
abbrev CtX6_silenceCount (sp : Int → Mem → Kont → Prop) : Prop := Ct yX6_silenceCount cX6_silenceCount 3 (some .int) rmX6_silenceCount domC argX6_silenceCount (fun a => sp a)
theorem dX6_silenceCount_0 : decode cX6_silenceCount 0 = .ok (.iconst 0, 1) := by decide +kernel
theorem dX6_silenceCount_1 : decode cX6_silenceCount 1 = .ok (.istore_n 1, 1) := by decide +kernel
theorem dX6_silenceCount_2 : decode cX6_silenceCount 2 = .ok (.iconst 0, 1) := by decide +kernel
theorem dX6_silenceCount_3 : decode cX6_silenceCount 3 = .ok (.istore_n 2, 1) := by decide +kernel
theorem dX6_silenceCount_4 : decode cX6_silenceCount 4 = .ok (.iload_n 2, 1) := by decide +kernel
theorem dX6_silenceCount_5 : decode cX6_silenceCount 5 = .ok (.aload_n 0, 1) := by decide +kernel
theorem dX6_silenceCount_6 : decode cX6_silenceCount 6 = .ok (.getfield 21, 3) := by decide +kernel
theorem dX6_silenceCount_9 : decode cX6_silenceCount 9 = .ok (.getfield 46, 3) := by decide +kernel
theorem dX6_silenceCount_12 : decode cX6_silenceCount 12 = .ok (.if_icmp .ge 20, 3) := by decide +kernel
theorem dX6_silenceCount_15 : decode cX6_silenceCount 15 = .ok (.aload_n 0, 1) := by decide +kernel
theorem dX6_silenceCount_16 : decode cX6_silenceCount 16 = .ok (.iload_n 2, 1) := by decide +kernel
theorem dX6_silenceCount_17 : decode cX6_silenceCount 17 = .ok (.invokevirtual 95, 3) := by decide +kernel
theorem dX6_silenceCount_20 : decode cX6_silenceCount 20 = .ok (.ifCond .eq 6, 3) := by decide +kernel
theorem dX6_silenceCount_23 : decode cX6_silenceCount 23 = .ok (.iinc 1 1, 3) := by decide +kernel
theorem dX6_silenceCount_26 : decode cX6_silenceCount 26 = .ok (.iinc 2 1, 3) := by decide +kernel
theorem dX6_silenceCount_29 : decode cX6_silenceCount 29 = .ok (.goto (-25), 3) := by decide +kernel
theorem dX6_silenceCount_32 : decode cX6_silenceCount 32 = .ok (.iload_n 1, 1) := by decide +kernel
theorem dX6_silenceCount_33 : decode cX6_silenceCount 33 = .ok (.ireturn, 1) := by decide +kernel
theorem ivX6_95 : IV RX6 95 yX6_silenceBeginsAt cX6_silenceBeginsAt 2 (some .boolean) 1 := ⟨(tb_mem (t_in4 (List.mem_of_getElem? (i := 26) (by decide +kernel))) (by decide +kernel)), (tb_mem (t_in4 (List.mem_of_getElem? (i := 27) (by decide +kernel))) (by decide +kernel)), (tb_mem (t_in4 (List.mem_of_getElem? (i := 28) (by decide +kernel))) (by decide +kernel)), (tb_mem (t_in1 (List.mem_of_getElem? (i := 5) (by decide +kernel))) (by decide +kernel)), (tb_mem (t_in4 (List.mem_of_getElem? (i := 29) (by decide +kernel))) (by decide +kernel)), ⟨by decide +kernel, by decide +kernel, by decide +kernel⟩⟩
set_option maxHeartbeats 4000000 in
set_option maxRecDepth 20000 in
theorem sgX6_silenceCount_0 {κ : Kx} {K : Kont} {M : Mem} (C : Cx κ RX6 cX6_silenceCount 3 (some .int) rmX6_silenceCount domC) (i0 : Int)
    (h :
    V κ 3 M 4 [some (.inr (14, i0)), some (.inl 0), some (.inl 0)] [] K) : V κ 3 M 0 [some (.inr (14, i0)), none, none] [] K := by
  refine v_iconst C dX6_silenceCount_0 (by decide) ?_
  refine v_istore_n C dX6_silenceCount_1 (by decide) (Nat.le_of_ble_eq_true rfl) (lv' := [some (.inr (14, i0)), some (.inl 0), none]) rfl ?_
  refine v_iconst C dX6_silenceCount_2 (by decide) ?_
  refine v_istore_n C dX6_silenceCount_3 (by decide) (Nat.le_of_ble_eq_true rfl) (lv' := [some (.inr (14, i0)), some (.inl 0), some (.inl 0)]) rfl ?_
  refine v_weak [some (.inr (14, i0)), some (.inl 0), some (.inl 0)] ⟨rfl, rfl, rfl, trivial⟩ ?_
  exact h
set_option maxHeartbeats 4000000 in
set_option maxRecDepth 20000 in
theorem sgX6_silenceCount_4 {κ : Kx} {K : Kont} {M : Mem} (C : Cx κ RX6 cX6_silenceCount 3 (some .int) rmX6_silenceCount domC) (i0 : Int) (x1 : Int) (x2 : Int)
    (h :
    (((M 5 1 0) ≤ x2 →
      K (some x1) M) ∧
     (¬ ((M 5 1 0) ≤ x2) →
      spX6_silenceBeginsAt i0 x2 M (rI (fun r17 M17 =>
      ((r17 = 0 →
        inR (x2 + 1) ∧
        V κ 3 M17 4 [some (.inr (14, i0)), some (.inl x1), some (.inl (x2 + 1))] [] K) ∧
       (¬ (r17 = 0) →
        inR (x1 + 1) ∧
        inR (x2 + 1) ∧
        V κ 3 M17 4 [some (.inr (14, i0)), some (.inl (x1 + 1)), some (.inl (x2 + 1))] [] K))))))) : V κ 3 M 4 [some (.inr (14, i0)), some (.inl x1), some (.inl x2)] [] K := by
  refine v_iload_n C dX6_silenceCount_4 rfl ?_
  refine v_aload_n C dX6_silenceCount_5 rfl ?_
  refine v_get C dX6_silenceCount_6 flX6_21 rfl (by decide) (by decide) (w := .inr (5, 1)) rfl ?_
  refine v_get C dX6_silenceCount_9 flX6_46 rfl (by decide) (by decide) (w := .inl (M 5 1 0)) rfl ?_
  refine v_icmp C dX6_silenceCount_12 (tgt := 32) (by decide) (P := (M 5 1 0) ≤ x2) rfl (fun c12 => ?_) (fun c12 => ?_)
  · replace h := h.1 c12
    refine v_iload_n C dX6_silenceCount_32 rfl ?_
    exact v_iret C dX6_silenceCount_33 h
  · replace h := h.2 c12
    refine v_aload_n C dX6_silenceCount_15 rfl ?_
    refine v_iload_n C dX6_silenceCount_16 rfl ?_
    refine v_invV C ctX6_silenceBeginsAt dX6_silenceCount_17 ivX6_95 ⟨by decide, by decide, rfl, rfl⟩ ((i0, x2) : Int × Int) (As := [.inl x2]) rfl rfl rfl (by decide) rfl (st := []) rfl (Nat.le_of_ble_eq_true rfl) h (fun o M17 oM17 io17 h => ?_)
    obtain ⟨r17, rfl, h⟩ := rI_out h
    refine v_push ?_
    refine v_if C dX6_silenceCount_20 (tgt := 26) (by decide) (P := r17 = 0) rfl (fun c20 => ?_) (fun c20 => ?_)
    · replace h := h.1 c20
      refine v_iinc C dX6_silenceCount_26 (by decide) rfl h.1 (lv' := [some (.inr (14, i0)), some (.inl x1), some (.inl (x2 + 1))]) rfl ?_
      replace h := h.2
      refine v_goto C dX6_silenceCount_29 (tgt := 4) (by decide) ?_
      refine v_weak [some (.inr (14, i0)), some (.inl x1), some (.inl (x2 + 1))] ⟨rfl, rfl, rfl, trivial⟩ ?_
      exact h
    · replace h := h.2 c20
      refine v_iinc C dX6_silenceCount_23 (by decide) rfl h.1 (lv' := [some (.inr (14, i0)), some (.inl (x1 + 1)), some (.inl x2)]) rfl ?_
      replace h := h.2
      refine v_iinc C dX6_silenceCount_26 (by decide) rfl h.1 (lv' := [some (.inr (14, i0)), some (.inl (x1 + 1)), some (.inl (x2 + 1))]) rfl ?_
      replace h := h.2
      refine v_goto C dX6_silenceCount_29 (tgt := 4) (by decide) ?_
      refine v_weak [some (.inr (14, i0)), some (.inl (x1 + 1)), some (.inl (x2 + 1))] ⟨rfl, rfl, rfl, trivial⟩ ?_
      exact h
def silN (X : Int → Int) : Nat → Int := sumN (silB X)
theorem silB_rng (X : Int → Int) (t : Int) : 0 ≤ silB X t ∧ silB X t ≤ 1 := by
  unfold silB
  split <;> omega
theorem silN_rng (X : Int → Int) (n : Nat) : 0 ≤ silN X n ∧ silN X n ≤ n := by
  have := sum_rng (silB_rng X) n
  unfold silN
  omega
abbrev spX6_silenceCount (tr : Int) (M : Mem) (K : Kont) : Prop := (0 ≤ M 5 1 0 ∧ M 5 1 0 ≤ 100) ∧ K (some (silN (M 15 tr) (M 5 1 0).toNat)) M
theorem ctX6_silenceCount : CtX6_silenceCount spX6_silenceCount := by
  refine ct_of (by decide) dmC (fun _ => Nat.le_of_ble_eq_true rfl) ?_
  intro κ tr M K C oM h
  refine sgX6_silenceCount_0 C tr ?_
  dsimp only [spX6_silenceCount] at h
  obtain ⟨hT, hk⟩ := h
  have loop : ∀ (n : Nat) (t o : Int), 0 ≤ t → t + n = M 5 1 0 → o = silN (M 15 tr) t.toNat →
      V κ 3 M 4 [some (.inr (14, tr)), some (.inl o), some (.inl t)] [] K := by
    intro n
    induction n with
    | zero =>
      intro t o h0 hn ho
      refine sgX6_silenceCount_4 C tr o t ⟨fun c => ?_, fun c => absurd (by omega) c⟩
      have e : t = M 5 1 0 := by omega
      rw [ho, e]
      exact hk
    | succ n ih =>
      intro t o h0 hn ho
      have hr := silN_rng (M 15 tr) t.toNat
      have hq := silB_rng (M 15 tr) t
      have hs : silN (M 15 tr) (t + 1).toNat = silN (M 15 tr) t.toNat + silB (M 15 tr) t := by
        rw [toNat_s h0]
        show _ + silB _ (t.toNat : Int) = _
        rw [oi_nat h0]
        rfl
      refine sgX6_silenceCount_4 C tr o t ⟨fun c => absurd c (by omega), fun c => ⟨⟨h0, by omega⟩, fun c2 => ⟨by omega, ?_⟩, fun c2 => ⟨by omega, by omega, ?_⟩⟩⟩
      · exact ih (t + 1) o (by omega) (by omega) (by omega)
      · exact ih (t + 1) (o + 1) (by omega) (by omega) (by omega)
  exact loop (M 5 1 0).toNat 0 0 (by omega) (by omega) rfl
/-! ===== GapTellings$Track.silenceBegin ===== -/
abbrev rmX6_silenceBegin : Room := { frames := 2, cells := 0, slots := 0, locals := 42 }
abbrev argX6_silenceBegin (a : Int × Int) : List PV := [.inr (14, a.1), .inl a.2]
abbrev CtX6_silenceBegin (sp : Int → Int → Mem → Kont → Prop) : Prop := Ct yX6_silenceBegin cX6_silenceBegin 4 (some .int) rmX6_silenceBegin domC argX6_silenceBegin (fun a => sp a.1 a.2)
theorem dX6_silenceBegin_0 : decode cX6_silenceBegin 0 = .ok (.iconst 0, 1) := by decide +kernel
theorem dX6_silenceBegin_1 : decode cX6_silenceBegin 1 = .ok (.istore_n 2, 1) := by decide +kernel
theorem dX6_silenceBegin_2 : decode cX6_silenceBegin 2 = .ok (.iconst 0, 1) := by decide +kernel
theorem dX6_silenceBegin_3 : decode cX6_silenceBegin 3 = .ok (.istore_n 3, 1) := by decide +kernel
theorem dX6_silenceBegin_4 : decode cX6_silenceBegin 4 = .ok (.iload_n 3, 1) := by decide +kernel
theorem dX6_silenceBegin_5 : decode cX6_silenceBegin 5 = .ok (.aload_n 0, 1) := by decide +kernel
theorem dX6_silenceBegin_6 : decode cX6_silenceBegin 6 = .ok (.getfield 21, 3) := by decide +kernel
theorem dX6_silenceBegin_9 : decode cX6_silenceBegin 9 = .ok (.getfield 46, 3) := by decide +kernel
theorem dX6_silenceBegin_12 : decode cX6_silenceBegin 12 = .ok (.if_icmp .ge 27, 3) := by decide +kernel
theorem dX6_silenceBegin_15 : decode cX6_silenceBegin 15 = .ok (.aload_n 0, 1) := by decide +kernel
theorem dX6_silenceBegin_16 : decode cX6_silenceBegin 16 = .ok (.iload_n 3, 1) := by decide +kernel
theorem dX6_silenceBegin_17 : decode cX6_silenceBegin 17 = .ok (.invokevirtual 95, 3) := by decide +kernel
theorem dX6_silenceBegin_20 : decode cX6_silenceBegin 20 = .ok (.ifCond .eq 13, 3) := by decide +kernel
theorem dX6_silenceBegin_23 : decode cX6_silenceBegin 23 = .ok (.iload_n 2, 1) := by decide +kernel
theorem dX6_silenceBegin_24 : decode cX6_silenceBegin 24 = .ok (.iload_n 1, 1) := by decide +kernel
theorem dX6_silenceBegin_25 : decode cX6_silenceBegin 25 = .ok (.if_icmp .ne 5, 3) := by decide +kernel
theorem dX6_silenceBegin_28 : decode cX6_silenceBegin 28 = .ok (.iload_n 3, 1) := by decide +kernel
theorem dX6_silenceBegin_29 : decode cX6_silenceBegin 29 = .ok (.ireturn, 1) := by decide +kernel
theorem dX6_silenceBegin_30 : decode cX6_silenceBegin 30 = .ok (.iinc 2 1, 3) := by decide +kernel
theorem dX6_silenceBegin_33 : decode cX6_silenceBegin 33 = .ok (.iinc 3 1, 3) := by decide +kernel
theorem dX6_silenceBegin_36 : decode cX6_silenceBegin 36 = .ok (.goto (-32), 3) := by decide +kernel
theorem dX6_silenceBegin_39 : decode cX6_silenceBegin 39 = .ok (.bipush (-4), 2) := by decide +kernel
theorem dX6_silenceBegin_41 : decode cX6_silenceBegin 41 = .ok (.ireturn, 1) := by decide +kernel
set_option maxHeartbeats 4000000 in
set_option maxRecDepth 20000 in
theorem sgX6_silenceBegin_0 {κ : Kx} {K : Kont} {M : Mem} (C : Cx κ RX6 cX6_silenceBegin 4 (some .int) rmX6_silenceBegin domC) (i0 : Int) (x1 : Int)
    (h :
    V κ 4 M 4 [some (.inr (14, i0)), some (.inl x1), some (.inl 0), some (.inl 0)] [] K) : V κ 4 M 0 [some (.inr (14, i0)), some (.inl x1), none, none] [] K := by
  refine v_iconst C dX6_silenceBegin_0 (by decide) ?_
  refine v_istore_n C dX6_silenceBegin_1 (by decide) (Nat.le_of_ble_eq_true rfl) (lv' := [some (.inr (14, i0)), some (.inl x1), some (.inl 0), none]) rfl ?_
  refine v_iconst C dX6_silenceBegin_2 (by decide) ?_
  refine v_istore_n C dX6_silenceBegin_3 (by decide) (Nat.le_of_ble_eq_true rfl) (lv' := [some (.inr (14, i0)), some (.inl x1), some (.inl 0), some (.inl 0)]) rfl ?_
  refine v_weak [some (.inr (14, i0)), some (.inl x1), some (.inl 0), some (.inl 0)] ⟨rfl, rfl, rfl, rfl, trivial⟩ ?_
  exact h
set_option maxHeartbeats 4000000 in
set_option maxRecDepth 20000 in
theorem sgX6_silenceBegin_4 {κ : Kx} {K : Kont} {M : Mem} (C : Cx κ RX6 cX6_silenceBegin 4 (some .int) rmX6_silenceBegin domC) (i0 : Int) (x1 : Int) (x2 : Int) (x3 : Int)
    (h :
    (((M 5 1 0) ≤ x3 →
      K (some (-4)) M) ∧
     (¬ ((M 5 1 0) ≤ x3) →
      spX6_silenceBeginsAt i0 x3 M (rI (fun r17 M17 =>
      ((r17 = 0 →
        inR (x3 + 1) ∧
        V κ 4 M17 4 [some (.inr (14, i0)), some (.inl x1), some (.inl x2), some (.inl (x3 + 1))] [] K) ∧
       (¬ (r17 = 0) →
        ((x2 ≠ x1 →
          inR (x2 + 1) ∧
          inR (x3 + 1) ∧
          V κ 4 M17 4 [some (.inr (14, i0)), some (.inl x1), some (.inl (x2 + 1)), some (.inl (x3 + 1))] [] K) ∧
         (¬ (x2 ≠ x1) →
          K (some x3) M17))))))))) : V κ 4 M 4 [some (.inr (14, i0)), some (.inl x1), some (.inl x2), some (.inl x3)] [] K := by
  refine v_iload_n C dX6_silenceBegin_4 rfl ?_
  refine v_aload_n C dX6_silenceBegin_5 rfl ?_
  refine v_get C dX6_silenceBegin_6 flX6_21 rfl (by decide) (by decide) (w := .inr (5, 1)) rfl ?_
  refine v_get C dX6_silenceBegin_9 flX6_46 rfl (by decide) (by decide) (w := .inl (M 5 1 0)) rfl ?_
  refine v_icmp C dX6_silenceBegin_12 (tgt := 39) (by decide) (P := (M 5 1 0) ≤ x3) rfl (fun c12 => ?_) (fun c12 => ?_)
  · replace h := h.1 c12
    refine v_bipush C dX6_silenceBegin_39 (by decide) (by decide) ?_
    exact v_iret C dX6_silenceBegin_41 h
  · replace h := h.2 c12
    refine v_aload_n C dX6_silenceBegin_15 rfl ?_
    refine v_iload_n C dX6_silenceBegin_16 rfl ?_
    refine v_invV C ctX6_silenceBeginsAt dX6_silenceBegin_17 ivX6_95 ⟨by decide, by decide, rfl, rfl⟩ ((i0, x3) : Int × Int) (As := [.inl x3]) rfl rfl rfl (by decide) rfl (st := []) rfl (Nat.le_of_ble_eq_true rfl) h (fun o M17 oM17 io17 h => ?_)
    obtain ⟨r17, rfl, h⟩ := rI_out h
    refine v_push ?_
    refine v_if C dX6_silenceBegin_20 (tgt := 33) (by decide) (P := r17 = 0) rfl (fun c20 => ?_) (fun c20 => ?_)
    · replace h := h.1 c20
      refine v_iinc C dX6_silenceBegin_33 (by decide) rfl h.1 (lv' := [some (.inr (14, i0)), some (.inl x1), some (.inl x2), some (.inl (x3 + 1))]) rfl ?_
      replace h := h.2
      refine v_goto C dX6_silenceBegin_36 (tgt := 4) (by decide) ?_
      refine v_weak [some (.inr (14, i0)), some (.inl x1), some (.inl x2), some (.inl (x3 + 1))] ⟨rfl, rfl, rfl, rfl, trivial⟩ ?_
      exact h
    · replace h := h.2 c20
      refine v_iload_n C dX6_silenceBegin_23 rfl ?_
      refine v_iload_n C dX6_silenceBegin_24 rfl ?_
      refine v_icmp C dX6_silenceBegin_25 (tgt := 30) (by decide) (P := x2 ≠ x1) rfl (fun c25 => ?_) (fun c25 => ?_)
      · replace h := h.1 c25
        refine v_iinc C dX6_silenceBegin_30 (by decide) rfl h.1 (lv' := [some (.inr (14, i0)), some (.inl x1), some (.inl (x2 + 1)), some (.inl x3)]) rfl ?_
        replace h := h.2
        refine v_iinc C dX6_silenceBegin_33 (by decide) rfl h.1 (lv' := [some (.inr (14, i0)), some (.inl x1), some (.inl (x2 + 1)), some (.inl (x3 + 1))]) rfl ?_
        replace h := h.2
        refine v_goto C dX6_silenceBegin_36 (tgt := 4) (by decide) ?_
        refine v_weak [some (.inr (14, i0)), some (.inl x1), some (.inl (x2 + 1)), some (.inl (x3 + 1))] ⟨rfl, rfl, rfl, rfl, trivial⟩ ?_
        exact h
      · replace h := h.2 c25
        refine v_iload_n C dX6_silenceBegin_28 rfl ?_
        exact v_iret C dX6_silenceBegin_29 h
/-- the first tick of the i-th silence from t on, if so many began ahead; -4: there is none -/
def silF (X : Int → Int) (i : Int) : Nat → Int → Int → Int
  | 0, _, _ => -4
  | n + 1, t, o => if silB X t = 0 then silF X i n (t + 1) o else if o = i then t else silF X i n (t + 1) (o + 1)
abbrev spX6_silenceBegin (tr i : Int) (M : Mem) (K : Kont) : Prop := (0 ≤ M 5 1 0 ∧ M 5 1 0 ≤ 100) ∧ K (some (silF (M 15 tr) i (M 5 1 0).toNat 0 0)) M
theorem ctX6_silenceBegin : CtX6_silenceBegin spX6_silenceBegin := by
  refine ct_of (by decide) dmC (fun _ => Nat.le_of_ble_eq_true rfl) ?_
  intro κ a M K C oM h
  obtain ⟨tr, i⟩ := a
  refine sgX6_silenceBegin_0 C tr i ?_
  dsimp only [spX6_silenceBegin] at h
  obtain ⟨hT, hk⟩ := h
  have loop : ∀ (n : Nat) (t o : Int), 0 ≤ t → t + n = M 5 1 0 → 0 ≤ o → o ≤ t → K (some (silF (M 15 tr) i n t o)) M →
      V κ 4 M 4 [some (.inr (14, tr)), some (.inl i), some (.inl o), some (.inl t)] [] K := by
    intro n
    induction n with
    | zero =>
      intro t o h0 hn _ _ hk
      exact sgX6_silenceBegin_4 C tr i o t ⟨fun c => hk, fun c => absurd (by omega) c⟩
    | succ n ih =>
      intro t o h0 hn ho ho2 hk
      simp only [silF] at hk
      refine sgX6_silenceBegin_4 C tr i o t ⟨fun c => absurd c (by omega), fun c => ⟨⟨h0, by omega⟩, fun c2 => ⟨by omega, ?_⟩, fun c2 => ⟨fun c3 => ⟨by omega, by omega, ?_⟩, fun c3 => ?_⟩⟩⟩
      · rw [if_pos c2] at hk
        exact ih (t + 1) o (by omega) (by omega) ho (by omega) hk
      · rw [if_neg c2, if_neg c3] at hk
        exact ih (t + 1) (o + 1) (by omega) (by omega) (by omega) (by omega) hk
      · rw [if_neg c2, if_pos (by omega)] at hk
        exact hk
  exact loop (M 5 1 0).toNat 0 0 (by omega) (by omega) (by omega) (by omega) hk
/-! ===== GapTellings$Track.silenceEnd ===== -/
abbrev rmX6_silenceEnd : Room := { frames := 1, cells := 0, slots := 0, locals := 21 }
abbrev argX6_silenceEnd (a : Int × Int) : List PV := [.inr (14, a.1), .inl a.2]
abbrev CtX6_silenceEnd (sp : Int → Int → Mem → Kont → Prop) : Prop := Ct yX6_silenceEnd cX6_silenceEnd 3 (some .int) rmX6_silenceEnd domC argX6_silenceEnd (fun a => sp a.1 a.2)
theorem dX6_silenceEnd_0 : decode cX6_silenceEnd 0 = .ok (.iload_n 1, 1) := by decide +kernel
theorem dX6_silenceEnd_1 : decode cX6_silenceEnd 1 = .ok (.istore_n 2, 1) := by decide +kernel
theorem dX6_silenceEnd_2 : decode cX6_silenceEnd 2 = .ok (.iload_n 2, 1) := by decide +kernel
theorem dX6_silenceEnd_3 : decode cX6_silenceEnd 3 = .ok (.aload_n 0, 1) := by decide +kernel
theorem dX6_silenceEnd_4 : decode cX6_silenceEnd 4 = .ok (.getfield 21, 3) := by decide +kernel
theorem dX6_silenceEnd_7 : decode cX6_silenceEnd 7 = .ok (.getfield 46, 3) := by decide +kernel
theorem dX6_silenceEnd_10 : decode cX6_silenceEnd 10 = .ok (.if_icmp .ge 19, 3) := by decide +kernel
theorem dX6_silenceEnd_13 : decode cX6_silenceEnd 13 = .ok (.aload_n 0, 1) := by decide +kernel
theorem dX6_silenceEnd_14 : decode cX6_silenceEnd 14 = .ok (.iload_n 2, 1) := by decide +kernel
theorem dX6_silenceEnd_15 : decode cX6_silenceEnd 15 = .ok (.invokevirtual 49, 3) := by decide +kernel
theorem dX6_silenceEnd_18 : decode cX6_silenceEnd 18 = .ok (.ifCond .eq 5, 3) := by decide +kernel
theorem dX6_silenceEnd_21 : decode cX6_silenceEnd 21 = .ok (.iload_n 2, 1) := by decide +kernel
theorem dX6_silenceEnd_22 : decode cX6_silenceEnd 22 = .ok (.ireturn, 1) := by decide +kernel
theorem dX6_silenceEnd_23 : decode cX6_silenceEnd 23 = .ok (.iinc 2 1, 3) := by decide +kernel
theorem dX6_silenceEnd_26 : decode cX6_silenceEnd 26 = .ok (.goto (-24), 3) := by decide +kernel
theorem dX6_silenceEnd_29 : decode cX6_silenceEnd 29 = .ok (.aload_n 0, 1) := by decide +kernel
theorem dX6_silenceEnd_30 : decode cX6_silenceEnd 30 = .ok (.getfield 21, 3) := by decide +kernel
theorem dX6_silenceEnd_33 : decode cX6_silenceEnd 33 = .ok (.getfield 46, 3) := by decide +kernel
theorem dX6_silenceEnd_36 : decode cX6_silenceEnd 36 = .ok (.ireturn, 1) := by decide +kernel
set_option maxHeartbeats 4000000 in
set_option maxRecDepth 20000 in
theorem sgX6_silenceEnd_0 {κ : Kx} {K : Kont} {M : Mem} (C : Cx κ RX6 cX6_silenceEnd 3 (some .int) rmX6_silenceEnd domC) (i0 : Int) (x1 : Int)
    (h :
    V κ 3 M 2 [some (.inr (14, i0)), none, some (.inl x1)] [] K) : V κ 3 M 0 [some (.inr (14, i0)), some (.inl x1), none] [] K := by
  refine v_iload_n C dX6_silenceEnd_0 rfl ?_
  refine v_istore_n C dX6_silenceEnd_1 (by decide) (Nat.le_of_ble_eq_true rfl) (lv' := [some (.inr (14, i0)), some (.inl x1), some (.inl x1)]) rfl ?_
  refine v_weak [some (.inr (14, i0)), none, some (.inl x1)] ⟨rfl, rfl, trivial⟩ ?_
  exact h
set_option maxHeartbeats 4000000 in
set_option maxRecDepth 20000 in
theorem sgX6_silenceEnd_2 {κ : Kx} {K : Kont} {M : Mem} (C : Cx κ RX6 cX6_silenceEnd 3 (some .int) rmX6_silenceEnd domC) (i0 : Int) (x2 : Int)
    (h :
    (((M 5 1 0) ≤ x2 →
      K (some (M 5 1 0)) M) ∧
     (¬ ((M 5 1 0) ≤ x2) →
      spX6_hasSpeech i0 x2 M (rI (fun r15 M15 =>
      ((r15 = 0 →
        inR (x2 + 1) ∧
        V κ 3 M15 2 [some (.inr (14, i0)), none, some (.inl (x2 + 1))] [] K) ∧
       (¬ (r15 = 0) →
        K (some x2) M15))))))) : V κ 3 M 2 [some (.inr (14, i0)), none, some (.inl x2)] [] K := by
  refine v_iload_n C dX6_silenceEnd_2 rfl ?_
  refine v_aload_n C dX6_silenceEnd_3 rfl ?_
  refine v_get C dX6_silenceEnd_4 flX6_21 rfl (by decide) (by decide) (w := .inr (5, 1)) rfl ?_
  refine v_get C dX6_silenceEnd_7 flX6_46 rfl (by decide) (by decide) (w := .inl (M 5 1 0)) rfl ?_
  refine v_icmp C dX6_silenceEnd_10 (tgt := 29) (by decide) (P := (M 5 1 0) ≤ x2) rfl (fun c10 => ?_) (fun c10 => ?_)
  · replace h := h.1 c10
    refine v_aload_n C dX6_silenceEnd_29 rfl ?_
    refine v_get C dX6_silenceEnd_30 flX6_21 rfl (by decide) (by decide) (w := .inr (5, 1)) rfl ?_
    refine v_get C dX6_silenceEnd_33 flX6_46 rfl (by decide) (by decide) (w := .inl (M 5 1 0)) rfl ?_
    exact v_iret C dX6_silenceEnd_36 h
  · replace h := h.2 c10
    refine v_aload_n C dX6_silenceEnd_13 rfl ?_
    refine v_iload_n C dX6_silenceEnd_14 rfl ?_
    refine v_invV C ctX6_hasSpeech dX6_silenceEnd_15 ivX6_49 ⟨by decide, by decide, rfl, rfl⟩ ((i0, x2) : Int × Int) (As := [.inl x2]) rfl rfl rfl (by decide) rfl (st := []) rfl (Nat.le_of_ble_eq_true rfl) h (fun o M15 oM15 io15 h => ?_)
    obtain ⟨r15, rfl, h⟩ := rI_out h
    refine v_push ?_
    refine v_if C dX6_silenceEnd_18 (tgt := 23) (by decide) (P := r15 = 0) rfl (fun c18 => ?_) (fun c18 => ?_)
    · replace h := h.1 c18
      refine v_iinc C dX6_silenceEnd_23 (by decide) rfl h.1 (lv' := [some (.inr (14, i0)), none, some (.inl (x2 + 1))]) rfl ?_
      replace h := h.2
      refine v_goto C dX6_silenceEnd_26 (tgt := 2) (by decide) ?_
      refine v_weak [some (.inr (14, i0)), none, some (.inl (x2 + 1))] ⟨rfl, rfl, trivial⟩ ?_
      exact h
    · replace h := h.2 c18
      refine v_iload_n C dX6_silenceEnd_21 rfl ?_
      exact v_iret C dX6_silenceEnd_22 h
/-- the first tick from t on that has speech, or the end -/
def silE (X : Int → Int) : Nat → Int → Int
  | 0, t => t
  | n + 1, t => if bAnd (X t) 1 = 0 then silE X n (t + 1) else t
abbrev spX6_silenceEnd (tr i : Int) (M : Mem) (K : Kont) : Prop := (0 ≤ M 5 1 0 ∧ M 5 1 0 ≤ 100 ∧ 0 ≤ i ∧ i ≤ M 5 1 0) ∧ K (some (silE (M 15 tr) (M 5 1 0 - i).toNat i)) M
theorem ctX6_silenceEnd : CtX6_silenceEnd spX6_silenceEnd := by
  refine ct_of (by decide) dmC (fun _ => Nat.le_of_ble_eq_true rfl) ?_
  intro κ a M K C oM h
  obtain ⟨tr, i⟩ := a
  refine sgX6_silenceEnd_0 C tr i ?_
  dsimp only [spX6_silenceEnd] at h
  obtain ⟨hT, hk⟩ := h
  have loop : ∀ (n : Nat) (t : Int), 0 ≤ t → t + n = M 5 1 0 → K (some (silE (M 15 tr) n t)) M →
      V κ 3 M 2 [some (.inr (14, tr)), none, some (.inl t)] [] K := by
    intro n
    induction n with
    | zero =>
      intro t h0 hn hk
      refine sgX6_silenceEnd_2 C tr t ⟨fun c => ?_, fun c => absurd (by omega) c⟩
      have e : M 5 1 0 = t := by omega
      rw [e]
      exact hk
    | succ n ih =>
      intro t h0 hn hk
      simp only [silE] at hk
      refine sgX6_silenceEnd_2 C tr t ⟨fun c => absurd c (by omega), fun c => ⟨⟨h0, by omega⟩, ?_, ?_⟩⟩
      · intro c2
        have c3 : bAnd (M 15 tr t) 1 = 0 := by
          by_cases q : bAnd (M 15 tr t) 1 = 0
          · exact q
          · rw [if_neg q] at c2
            omega
        rw [if_pos c3] at hk
        exact ⟨by omega, ih (t + 1) (by omega) (by omega) hk⟩
      · intro c2
        have c3 : ¬ bAnd (M 15 tr t) 1 = 0 := by
          intro q
          rw [if_pos q] at c2
          omega
        rw [if_neg c3] at hk
        exact hk
  exact loop (M 5 1 0 - i).toNat i (by omega) (by omega) hk
end
section
/-! ===== Track.listen ===== -/
/-! ===== GapTellings$Track.listen ===== -/
abbrev rmX6_listen : Room := { frames := 1, cells := 0, slots := 0, locals := 23 }
abbrev argX6_listen (a : Int × Int × Int) : List PV := [.inr (14, a.1), .inl a.2.1, .inl a.2.2]
abbrev CtX6_listen (sp : Int → Int → Int → Mem → Kont → Prop) : Prop := Ct yX6_listen cX6_listen 7 none rmX6_listen domC argX6_listen (fun a => sp a.1 a.2.1 a.2.2)
theorem dX6_listen_0 : decode cX6_listen 0 = .ok (.aload_n 0, 1) := by decide +kernel
theorem dX6_listen_1 : decode cX6_listen 1 = .ok (.getfield 9, 3) := by decide +kernel
theorem dX6_listen_4 : decode cX6_listen 4 = .ok (.iconst 0, 1) := by decide +kernel
theorem dX6_listen_5 : decode cX6_listen 5 = .ok (.invokestatic 25, 3) := by decide +kernel
theorem dX6_listen_8 : decode cX6_listen 8 = .ok (.iconst 0, 1) := by decide +kernel
theorem dX6_listen_9 : decode cX6_listen 9 = .ok (.istore_n 3, 1) := by decide +kernel
theorem dX6_listen_10 : decode cX6_listen 10 = .ok (.iload_n 3, 1) := by decide +kernel
theorem dX6_listen_11 : decode cX6_listen 11 = .ok (.aload_n 0, 1) := by decide +kernel
theorem dX6_listen_12 : decode cX6_listen 12 = .ok (.getfield 21, 3) := by decide +kernel
theorem dX6_listen_15 : decode cX6_listen 15 = .ok (.getfield 31, 3) := by decide +kernel
theorem dX6_listen_18 : decode cX6_listen 18 = .ok (.if_icmp .ge 80, 3) := by decide +kernel
theorem dX6_listen_21 : decode cX6_listen 21 = .ok (.aload_n 0, 1) := by decide +kernel
theorem dX6_listen_22 : decode cX6_listen 22 = .ok (.getfield 21, 3) := by decide +kernel
theorem dX6_listen_25 : decode cX6_listen 25 = .ok (.getfield 37, 3) := by decide +kernel
theorem dX6_listen_28 : decode cX6_listen 28 = .ok (.iload_n 3, 1) := by decide +kernel
theorem dX6_listen_29 : decode cX6_listen 29 = .ok (.iaload, 1) := by decide +kernel
theorem dX6_listen_30 : decode cX6_listen 30 = .ok (.iload_n 3, 1) := by decide +kernel
theorem dX6_listen_31 : decode cX6_listen 31 = .ok (.iload_n 1, 1) := by decide +kernel
theorem dX6_listen_32 : decode cX6_listen 32 = .ok (.if_icmp .ne 7, 3) := by decide +kernel
theorem dX6_listen_35 : decode cX6_listen 35 = .ok (.iload_n 2, 1) := by decide +kernel
theorem dX6_listen_36 : decode cX6_listen 36 = .ok (.goto 4, 3) := by decide +kernel
theorem dX6_listen_39 : decode cX6_listen 39 = .ok (.iconst 0, 1) := by decide +kernel
theorem dX6_listen_40 : decode cX6_listen 40 = .ok (.isub, 1) := by decide +kernel
theorem dX6_listen_41 : decode cX6_listen 41 = .ok (.istore 4, 2) := by decide +kernel
theorem dX6_listen_43 : decode cX6_listen 43 = .ok (.iconst 1, 1) := by decide +kernel
theorem dX6_listen_44 : decode cX6_listen 44 = .ok (.aload_n 0, 1) := by decide +kernel
theorem dX6_listen_45 : decode cX6_listen 45 = .ok (.getfield 21, 3) := by decide +kernel
theorem dX6_listen_48 : decode cX6_listen 48 = .ok (.getfield 40, 3) := by decide +kernel
theorem dX6_listen_51 : decode cX6_listen 51 = .ok (.iload_n 3, 1) := by decide +kernel
theorem dX6_listen_52 : decode cX6_listen 52 = .ok (.iaload, 1) := by decide +kernel
theorem dX6_listen_53 : decode cX6_listen 53 = .ok (.ishl, 1) := by decide +kernel
theorem dX6_listen_54 : decode cX6_listen 54 = .ok (.istore 5, 2) := by decide +kernel
theorem dX6_listen_56 : decode cX6_listen 56 = .ok (.aload_n 0, 1) := by decide +kernel
theorem dX6_listen_57 : decode cX6_listen 57 = .ok (.getfield 21, 3) := by decide +kernel
theorem dX6_listen_60 : decode cX6_listen 60 = .ok (.getfield 43, 3) := by decide +kernel
theorem dX6_listen_63 : decode cX6_listen 63 = .ok (.iload_n 3, 1) := by decide +kernel
theorem dX6_listen_64 : decode cX6_listen 64 = .ok (.iaload, 1) := by decide +kernel
theorem dX6_listen_65 : decode cX6_listen 65 = .ok (.istore 6, 2) := by decide +kernel
theorem dX6_listen_67 : decode cX6_listen 67 = .ok (.iload 6, 2) := by decide +kernel
theorem dX6_listen_69 : decode cX6_listen 69 = .ok (.iload 4, 2) := by decide +kernel
theorem dX6_listen_71 : decode cX6_listen 71 = .ok (.if_icmp .ge 21, 3) := by decide +kernel
theorem dX6_listen_74 : decode cX6_listen 74 = .ok (.aload_n 0, 1) := by decide +kernel
theorem dX6_listen_75 : decode cX6_listen 75 = .ok (.getfield 9, 3) := by decide +kernel
theorem dX6_listen_78 : decode cX6_listen 78 = .ok (.iload 6, 2) := by decide +kernel
theorem dX6_listen_80 : decode cX6_listen 80 = .ok (.dup2, 1) := by decide +kernel
theorem dX6_listen_81 : decode cX6_listen 81 = .ok (.iaload, 1) := by decide +kernel
theorem dX6_listen_82 : decode cX6_listen 82 = .ok (.iload 5, 2) := by decide +kernel
theorem dX6_listen_84 : decode cX6_listen 84 = .ok (.ior, 1) := by decide +kernel
theorem dX6_listen_85 : decode cX6_listen 85 = .ok (.iastore, 1) := by decide +kernel
theorem dX6_listen_86 : decode cX6_listen 86 = .ok (.iinc 6 1, 3) := by decide +kernel
theorem dX6_listen_89 : decode cX6_listen 89 = .ok (.goto (-22), 3) := by decide +kernel
theorem dX6_listen_92 : decode cX6_listen 92 = .ok (.iinc 3 1, 3) := by decide +kernel
theorem dX6_listen_95 : decode cX6_listen 95 = .ok (.goto (-85), 3) := by decide +kernel
theorem dX6_listen_98 : decode cX6_listen 98 = .ok (.iconst 0, 1) := by decide +kernel
theorem dX6_listen_99 : decode cX6_listen 99 = .ok (.istore_n 3, 1) := by decide +kernel
theorem dX6_listen_100 : decode cX6_listen 100 = .ok (.iload_n 3, 1) := by decide +kernel
theorem dX6_listen_101 : decode cX6_listen 101 = .ok (.aload_n 0, 1) := by decide +kernel
theorem dX6_listen_102 : decode cX6_listen 102 = .ok (.getfield 21, 3) := by decide +kernel
theorem dX6_listen_105 : decode cX6_listen 105 = .ok (.getfield 46, 3) := by decide +kernel
theorem dX6_listen_108 : decode cX6_listen 108 = .ok (.if_icmp .ge 62, 3) := by decide +kernel
theorem dX6_listen_111 : decode cX6_listen 111 = .ok (.aload_n 0, 1) := by decide +kernel
theorem dX6_listen_112 : decode cX6_listen 112 = .ok (.getfield 15, 3) := by decide +kernel
theorem dX6_listen_115 : decode cX6_listen 115 = .ok (.iload_n 3, 1) := by decide +kernel
theorem dX6_listen_116 : decode cX6_listen 116 = .ok (.iconst 1, 1) := by decide +kernel
theorem dX6_listen_117 : decode cX6_listen 117 = .ok (.iadd, 1) := by decide +kernel
theorem dX6_listen_118 : decode cX6_listen 118 = .ok (.aload_n 0, 1) := by decide +kernel
theorem dX6_listen_119 : decode cX6_listen 119 = .ok (.getfield 15, 3) := by decide +kernel
theorem dX6_listen_122 : decode cX6_listen 122 = .ok (.iload_n 3, 1) := by decide +kernel
theorem dX6_listen_123 : decode cX6_listen 123 = .ok (.iaload, 1) := by decide +kernel
theorem dX6_listen_124 : decode cX6_listen 124 = .ok (.aload_n 0, 1) := by decide +kernel
theorem dX6_listen_125 : decode cX6_listen 125 = .ok (.iload_n 3, 1) := by decide +kernel
theorem dX6_listen_126 : decode cX6_listen 126 = .ok (.invokevirtual 49, 3) := by decide +kernel
theorem dX6_listen_129 : decode cX6_listen 129 = .ok (.ifCond .eq 7, 3) := by decide +kernel
theorem dX6_listen_132 : decode cX6_listen 132 = .ok (.iconst 1, 1) := by decide +kernel
theorem dX6_listen_133 : decode cX6_listen 133 = .ok (.goto 4, 3) := by decide +kernel
theorem dX6_listen_136 : decode cX6_listen 136 = .ok (.iconst 0, 1) := by decide +kernel
theorem dX6_listen_137 : decode cX6_listen 137 = .ok (.iadd, 1) := by decide +kernel
theorem dX6_listen_138 : decode cX6_listen 138 = .ok (.iastore, 1) := by decide +kernel
theorem dX6_listen_139 : decode cX6_listen 139 = .ok (.aload_n 0, 1) := by decide +kernel
theorem dX6_listen_140 : decode cX6_listen 140 = .ok (.getfield 18, 3) := by decide +kernel
theorem dX6_listen_143 : decode cX6_listen 143 = .ok (.iload_n 3, 1) := by decide +kernel
theorem dX6_listen_144 : decode cX6_listen 144 = .ok (.iconst 1, 1) := by decide +kernel
theorem dX6_listen_145 : decode cX6_listen 145 = .ok (.iadd, 1) := by decide +kernel
theorem dX6_listen_146 : decode cX6_listen 146 = .ok (.aload_n 0, 1) := by decide +kernel
theorem dX6_listen_147 : decode cX6_listen 147 = .ok (.getfield 18, 3) := by decide +kernel
theorem dX6_listen_150 : decode cX6_listen 150 = .ok (.iload_n 3, 1) := by decide +kernel
theorem dX6_listen_151 : decode cX6_listen 151 = .ok (.iaload, 1) := by decide +kernel
theorem dX6_listen_152 : decode cX6_listen 152 = .ok (.aload_n 0, 1) := by decide +kernel
theorem dX6_listen_153 : decode cX6_listen 153 = .ok (.aload_n 0, 1) := by decide +kernel
theorem dX6_listen_154 : decode cX6_listen 154 = .ok (.getfield 9, 3) := by decide +kernel
theorem dX6_listen_157 : decode cX6_listen 157 = .ok (.iload_n 3, 1) := by decide +kernel
theorem dX6_listen_158 : decode cX6_listen 158 = .ok (.iaload, 1) := by decide +kernel
theorem dX6_listen_159 : decode cX6_listen 159 = .ok (.invokevirtual 53, 3) := by decide +kernel
theorem dX6_listen_162 : decode cX6_listen 162 = .ok (.iadd, 1) := by decide +kernel
theorem dX6_listen_163 : decode cX6_listen 163 = .ok (.iastore, 1) := by decide +kernel
theorem dX6_listen_164 : decode cX6_listen 164 = .ok (.iinc 3 1, 3) := by decide +kernel
theorem dX6_listen_167 : decode cX6_listen 167 = .ok (.goto (-67), 3) := by decide +kernel
theorem dX6_listen_170 : decode cX6_listen 170 = .ok (.return_, 1) := by decide +kernel
theorem ivX6_25 : IS RX6 25 yJ7_fill_53178 cJ7_fill_53178 4 none 2 := ⟨(tb_mem (t_in2 (List.mem_of_getElem? (i := 206) (by decide +kernel))) (by decide +kernel)), (tb_mem (t_in1 (List.mem_of_getElem? (i := 191) (by decide +kernel))) (by decide +kernel)), (tb_mem (t_in1 (List.mem_of_getElem? (i := 7) (by decide +kernel))) (by decide +kernel)), (tb_mem (t_in1 (List.mem_of_getElem? (i := 192) (by decide +kernel))) (by decide +kernel)), ⟨by decide +kernel, by decide +kernel, by decide +kernel⟩⟩
theorem flX6_31 : FL RX6 31 1 3 := ⟨_, _, _, rfl, by decide, uwX1, Or.inr ⟨"GapTellings", (nw_mem (t_in1 (List.mem_of_getElem? (i := 120) (by decide +kernel))) (by decide +kernel))⟩⟩
theorem flX6_37 : FL RX6 37 1 6 := ⟨_, _, _, rfl, by decide, uwX1, Or.inr ⟨"GapTellings", (nw_mem (t_in1 (List.mem_of_getElem? (i := 129) (by decide +kernel))) (by decide +kernel))⟩⟩
theorem flX6_40 : FL RX6 40 1 4 := ⟨_, _, _, rfl, by decide, uwX1, Or.inr ⟨"GapTellings", (nw_mem (t_in1 (List.mem_of_getElem? (i := 124) (by decide +kernel))) (by decide +kernel))⟩⟩
theorem flX6_43 : FL RX6 43 1 5 := ⟨_, _, _, rfl, by decide, uwX1, Or.inr ⟨"GapTellings", (nw_mem (t_in1 (List.mem_of_getElem? (i := 126) (by decide +kernel))) (by decide +kernel))⟩⟩
theorem ivX6_53 : IV RX6 53 yX6_soundCost cX6_soundCost 2 (some .int) 1 := ⟨(tb_mem (t_in2 (List.mem_of_getElem? (i := 211) (by decide +kernel))) (by decide +kernel)), (tb_mem (t_in2 (List.mem_of_getElem? (i := 212) (by decide +kernel))) (by decide +kernel)), (tb_mem (t_in2 (List.mem_of_getElem? (i := 213) (by decide +kernel))) (by decide +kernel)), (tb_mem (t_in1 (List.mem_of_getElem? (i := 5) (by decide +kernel))) (by decide +kernel)), (tb_mem (t_in2 (List.mem_of_getElem? (i := 214) (by decide +kernel))) (by decide +kernel)), ⟨by decide +kernel, by decide +kernel, by decide +kernel⟩⟩
set_option maxHeartbeats 4000000 in
set_option maxRecDepth 20000 in
theorem sgX6_listen_0 {κ : Kx} {K : Kont} {M : Mem} (C : Cx κ RX6 cX6_listen 7 none rmX6_listen domC) (i0 : Int) (x1 : Int) (x2 : Int)
    (h :
    ∀ M5 : Mem, M5 = filM M 15 i0 100 0 →
    V κ 7 M5 10 [some (.inr (14, i0)), some (.inl x1), some (.inl x2), some (.inl 0), none, none, none] [] K) : V κ 7 M 0 [some (.inr (14, i0)), some (.inl x1), some (.inl x2), none, none, none, none] [] K := by
  refine v_aload_n C dX6_listen_0 rfl ?_
  refine v_get C dX6_listen_1 flX6_9 rfl (by decide) (by decide) (w := .inr (15, i0)) rfl ?_
  refine v_iconst C dX6_listen_4 (by decide) ?_
  refine v_invS C (ctFill domC (Or.inl rfl)) dX6_listen_5 ivX6_25 ⟨by decide, by decide, rfl, rfl⟩ ((15, i0, 0) : Nat × Int × Int) rfl (st := []) rfl (Nat.le_of_ble_eq_true rfl) (K1 := rV (fun M' => M' = filM M 15 i0 100 0)) ⟨rfl, rfl⟩ (fun o M5 oM5 io h5 => ?_)
  obtain ⟨rfl, eM5⟩ := rV_out h5
  refine v_push0 ?_
  replace h := h M5 eM5
  refine v_iconst C dX6_listen_8 (by decide) ?_
  refine v_istore_n C dX6_listen_9 (by decide) (Nat.le_of_ble_eq_true rfl) (lv' := [some (.inr (14, i0)), some (.inl x1), some (.inl x2), some (.inl 0), none, none, none]) rfl ?_
  refine v_weak [some (.inr (14, i0)), some (.inl x1), some (.inl x2), some (.inl 0), none, none, none] ⟨rfl, rfl, rfl, rfl, trivial⟩ ?_
  exact h
set_option maxHeartbeats 4000000 in
set_option maxRecDepth 20000 in
theorem sgX6_listen_10 {κ : Kx} {K : Kont} {M : Mem} (C : Cx κ RX6 cX6_listen 7 none rmX6_listen domC) (i0 : Int) (x1 : Int) (x2 : Int) (x3 : Int)
    (h :
    (((M 5 1 3) ≤ x3 →
      V κ 7 M 100 [some (.inr (14, i0)), none, none, some (.inl 0), none, none, none] [] K) ∧
     (¬ ((M 5 1 3) ≤ x3) →
      (0 ≤ x3 ∧ x3 < 12) ∧
      ((x3 ≠ x1 →
        inR ((M 9 1 x3) - 0) ∧
        ∀ y4_41 : Int, y4_41 = (M 9 1 x3) - 0 →
        (0 ≤ x3 ∧ x3 < 12) ∧
        ∀ y5_54 : Int, y5_54 = bShl 1 (M 7 1 x3) →
        (0 ≤ x3 ∧ x3 < 12) ∧
        V κ 7 M 67 [some (.inr (14, i0)), some (.inl x1), some (.inl x2), some (.inl x3), some (.inl y4_41), some (.inl y5_54), some (.inl (M 8 1 x3))] [] K) ∧
       (¬ (x3 ≠ x1) →
        inR ((M 9 1 x3) - x2) ∧
        ∀ y4_41 : Int, y4_41 = (M 9 1 x3) - x2 →
        (0 ≤ x3 ∧ x3 < 12) ∧
        ∀ y5_54 : Int, y5_54 = bShl 1 (M 7 1 x3) →
        (0 ≤ x3 ∧ x3 < 12) ∧
        V κ 7 M 67 [some (.inr (14, i0)), some (.inl x1), some (.inl x2), some (.inl x3), some (.inl y4_41), some (.inl y5_54), some (.inl (M 8 1 x3))] [] K))))) : V κ 7 M 10 [some (.inr (14, i0)), some (.inl x1), some (.inl x2), some (.inl x3), none, none, none] [] K := by
  refine v_iload_n C dX6_listen_10 rfl ?_
  refine v_aload_n C dX6_listen_11 rfl ?_
  refine v_get C dX6_listen_12 flX6_21 rfl (by decide) (by decide) (w := .inr (5, 1)) rfl ?_
  refine v_get C dX6_listen_15 flX6_31 rfl (by decide) (by decide) (w := .inl (M 5 1 3)) rfl ?_
  refine v_icmp C dX6_listen_18 (tgt := 98) (by decide) (P := (M 5 1 3) ≤ x3) rfl (fun c18 => ?_) (fun c18 => ?_)
  · replace h := h.1 c18
    refine v_iconst C dX6_listen_98 (by decide) ?_
    refine v_istore_n C dX6_listen_99 (by decide) (Nat.le_of_ble_eq_true rfl) (lv' := [some (.inr (14, i0)), some (.inl x1), some (.inl x2), some (.inl 0), none, none, none]) rfl ?_
    refine v_weak [some (.inr (14, i0)), none, none, some (.inl 0), none, none, none] ⟨rfl, rfl, trivial⟩ ?_
    exact h
  · replace h := h.2 c18
    refine v_aload_n C dX6_listen_21 rfl ?_
    refine v_get C dX6_listen_22 flX6_21 rfl (by decide) (by decide) (w := .inr (5, 1)) rfl ?_
    refine v_get C dX6_listen_25 flX6_37 rfl (by decide) (by decide) (w := .inr (9, 1)) rfl ?_
    refine v_iload_n C dX6_listen_28 rfl ?_
    refine v_iald C dX6_listen_29 rfl h.1.1 h.1.2 ?_
    replace h := h.2
    refine v_iload_n C dX6_listen_30 rfl ?_
    refine v_iload_n C dX6_listen_31 rfl ?_
    refine v_icmp C dX6_listen_32 (tgt := 39) (by decide) (P := x3 ≠ x1) rfl (fun c32 => ?_) (fun c32 => ?_)
    · replace h := h.1 c32
      refine v_iconst C dX6_listen_39 (by decide) ?_
      refine v_isub C dX6_listen_40 h.1 ?_
      replace h := h.2
      refine v_nm (fun y4_41 ey4_41 => ?_)
      replace h := h y4_41 ey4_41
      refine v_istore C dX6_listen_41 (by decide) (Nat.le_of_ble_eq_true rfl) (lv' := [some (.inr (14, i0)), some (.inl x1), some (.inl x2), some (.inl x3), some (.inl y4_41), none, none]) rfl ?_
      refine v_iconst C dX6_listen_43 (by decide) ?_
      refine v_aload_n C dX6_listen_44 rfl ?_
      refine v_get C dX6_listen_45 flX6_21 rfl (by decide) (by decide) (w := .inr (5, 1)) rfl ?_
      refine v_get C dX6_listen_48 flX6_40 rfl (by decide) (by decide) (w := .inr (7, 1)) rfl ?_
      refine v_iload_n C dX6_listen_51 rfl ?_
      refine v_iald C dX6_listen_52 rfl h.1.1 h.1.2 ?_
      replace h := h.2
      refine v_ishl C dX6_listen_53 ?_
      refine v_nm (fun y5_54 ey5_54 => ?_)
      replace h := h y5_54 ey5_54
      refine v_istore C dX6_listen_54 (by decide) (Nat.le_of_ble_eq_true rfl) (lv' := [some (.inr (14, i0)), some (.inl x1), some (.inl x2), some (.inl x3), some (.inl y4_41), some (.inl y5_54), none]) rfl ?_
      refine v_aload_n C dX6_listen_56 rfl ?_
      refine v_get C dX6_listen_57 flX6_21 rfl (by decide) (by decide) (w := .inr (5, 1)) rfl ?_
      refine v_get C dX6_listen_60 flX6_43 rfl (by decide) (by decide) (w := .inr (8, 1)) rfl ?_
      refine v_iload_n C dX6_listen_63 rfl ?_
      refine v_iald C dX6_listen_64 rfl h.1.1 h.1.2 ?_
      replace h := h.2
      refine v_istore C dX6_listen_65 (by decide) (Nat.le_of_ble_eq_true rfl) (lv' := [some (.inr (14, i0)), some (.inl x1), some (.inl x2), some (.inl x3), some (.inl y4_41), some (.inl y5_54), some (.inl (M 8 1 x3))]) rfl ?_
      refine v_weak [some (.inr (14, i0)), some (.inl x1), some (.inl x2), some (.inl x3), some (.inl y4_41), some (.inl y5_54), some (.inl (M 8 1 x3))] ⟨rfl, rfl, rfl, rfl, rfl, rfl, rfl, trivial⟩ ?_
      exact h
    · replace h := h.2 c32
      refine v_iload_n C dX6_listen_35 rfl ?_
      refine v_goto C dX6_listen_36 (tgt := 40) (by decide) ?_
      refine v_isub C dX6_listen_40 h.1 ?_
      replace h := h.2
      refine v_nm (fun y4_41 ey4_41 => ?_)
      replace h := h y4_41 ey4_41
      refine v_istore C dX6_listen_41 (by decide) (Nat.le_of_ble_eq_true rfl) (lv' := [some (.inr (14, i0)), some (.inl x1), some (.inl x2), some (.inl x3), some (.inl y4_41), none, none]) rfl ?_
      refine v_iconst C dX6_listen_43 (by decide) ?_
      refine v_aload_n C dX6_listen_44 rfl ?_
      refine v_get C dX6_listen_45 flX6_21 rfl (by decide) (by decide) (w := .inr (5, 1)) rfl ?_
      refine v_get C dX6_listen_48 flX6_40 rfl (by decide) (by decide) (w := .inr (7, 1)) rfl ?_
      refine v_iload_n C dX6_listen_51 rfl ?_
      refine v_iald C dX6_listen_52 rfl h.1.1 h.1.2 ?_
      replace h := h.2
      refine v_ishl C dX6_listen_53 ?_
      refine v_nm (fun y5_54 ey5_54 => ?_)
      replace h := h y5_54 ey5_54
      refine v_istore C dX6_listen_54 (by decide) (Nat.le_of_ble_eq_true rfl) (lv' := [some (.inr (14, i0)), some (.inl x1), some (.inl x2), some (.inl x3), some (.inl y4_41), some (.inl y5_54), none]) rfl ?_
      refine v_aload_n C dX6_listen_56 rfl ?_
      refine v_get C dX6_listen_57 flX6_21 rfl (by decide) (by decide) (w := .inr (5, 1)) rfl ?_
      refine v_get C dX6_listen_60 flX6_43 rfl (by decide) (by decide) (w := .inr (8, 1)) rfl ?_
      refine v_iload_n C dX6_listen_63 rfl ?_
      refine v_iald C dX6_listen_64 rfl h.1.1 h.1.2 ?_
      replace h := h.2
      refine v_istore C dX6_listen_65 (by decide) (Nat.le_of_ble_eq_true rfl) (lv' := [some (.inr (14, i0)), some (.inl x1), some (.inl x2), some (.inl x3), some (.inl y4_41), some (.inl y5_54), some (.inl (M 8 1 x3))]) rfl ?_
      refine v_weak [some (.inr (14, i0)), some (.inl x1), some (.inl x2), some (.inl x3), some (.inl y4_41), some (.inl y5_54), some (.inl (M 8 1 x3))] ⟨rfl, rfl, rfl, rfl, rfl, rfl, rfl, trivial⟩ ?_
      exact h
set_option maxHeartbeats 4000000 in
set_option maxRecDepth 20000 in
theorem sgX6_listen_100 {κ : Kx} {K : Kont} {M : Mem} (C : Cx κ RX6 cX6_listen 7 none rmX6_listen domC) (i0 : Int) (x3 : Int)
    (h :
    (((M 5 1 0) ≤ x3 →
      K none M) ∧
     (¬ ((M 5 1 0) ≤ x3) →
      inR (x3 + 1) ∧
      (0 ≤ x3 ∧ x3 < 101) ∧
      spX6_hasSpeech i0 x3 M (rI (fun r126 M126 =>
      ((r126 = 0 →
        inR ((M 16 i0 x3) + 0) ∧
        (0 ≤ (x3 + 1) ∧ (x3 + 1) < 101) ∧
        ∀ M138 : Mem, M138 = up3 M126 16 i0 (x3 + 1) ((M 16 i0 x3) + 0) →
        inR (x3 + 1) ∧
        (0 ≤ x3 ∧ x3 < 101) ∧
        (0 ≤ x3 ∧ x3 < 100) ∧
        spX6_soundCost i0 (M138 15 i0 x3) M138 (rI (fun r159 M159 =>
        inR ((M138 17 i0 x3) + r159) ∧
        (0 ≤ (x3 + 1) ∧ (x3 + 1) < 101) ∧
        ∀ M163 : Mem, M163 = up3 M159 17 i0 (x3 + 1) ((M138 17 i0 x3) + r159) →
        inR (x3 + 1) ∧
        V κ 7 M163 100 [some (.inr (14, i0)), none, none, some (.inl (x3 + 1)), none, none, none] [] K))) ∧
       (¬ (r126 = 0) →
        inR ((M 16 i0 x3) + 1) ∧
        (0 ≤ (x3 + 1) ∧ (x3 + 1) < 101) ∧
        ∀ M138 : Mem, M138 = up3 M126 16 i0 (x3 + 1) ((M 16 i0 x3) + 1) →
        inR (x3 + 1) ∧
        (0 ≤ x3 ∧ x3 < 101) ∧
        (0 ≤ x3 ∧ x3 < 100) ∧
        spX6_soundCost i0 (M138 15 i0 x3) M138 (rI (fun r159 M159 =>
        inR ((M138 17 i0 x3) + r159) ∧
        (0 ≤ (x3 + 1) ∧ (x3 + 1) < 101) ∧
        ∀ M163 : Mem, M163 = up3 M159 17 i0 (x3 + 1) ((M138 17 i0 x3) + r159) →
        inR (x3 + 1) ∧
        V κ 7 M163 100 [some (.inr (14, i0)), none, none, some (.inl (x3 + 1)), none, none, none] [] K))))))))) : V κ 7 M 100 [some (.inr (14, i0)), none, none, some (.inl x3), none, none, none] [] K := by
  refine v_iload_n C dX6_listen_100 rfl ?_
  refine v_aload_n C dX6_listen_101 rfl ?_
  refine v_get C dX6_listen_102 flX6_21 rfl (by decide) (by decide) (w := .inr (5, 1)) rfl ?_
  refine v_get C dX6_listen_105 flX6_46 rfl (by decide) (by decide) (w := .inl (M 5 1 0)) rfl ?_
  refine v_icmp C dX6_listen_108 (tgt := 170) (by decide) (P := (M 5 1 0) ≤ x3) rfl (fun c108 => ?_) (fun c108 => ?_)
  · replace h := h.1 c108
    exact v_vret C dX6_listen_170 h
  · replace h := h.2 c108
    refine v_aload_n C dX6_listen_111 rfl ?_
    refine v_get C dX6_listen_112 flX6_15 rfl (by decide) (by decide) (w := .inr (16, i0)) rfl ?_
    refine v_iload_n C dX6_listen_115 rfl ?_
    refine v_iconst C dX6_listen_116 (by decide) ?_
    refine v_iadd C dX6_listen_117 h.1 ?_
    replace h := h.2
    refine v_aload_n C dX6_listen_118 rfl ?_
    refine v_get C dX6_listen_119 flX6_15 rfl (by decide) (by decide) (w := .inr (16, i0)) rfl ?_
    refine v_iload_n C dX6_listen_122 rfl ?_
    refine v_iald C dX6_listen_123 rfl h.1.1 h.1.2 ?_
    replace h := h.2
    refine v_aload_n C dX6_listen_124 rfl ?_
    refine v_iload_n C dX6_listen_125 rfl ?_
    refine v_invV C ctX6_hasSpeech dX6_listen_126 ivX6_49 ⟨by decide, by decide, rfl, rfl⟩ ((i0, x3) : Int × Int) (As := [.inl x3]) rfl rfl rfl (by decide) rfl (st := [.inl (M 16 i0 x3), .inl (x3 + 1), .inr (16, i0)]) rfl (Nat.le_of_ble_eq_true rfl) h (fun o M126 oM126 io126 h => ?_)
    obtain ⟨r126, rfl, h⟩ := rI_out h
    refine v_push ?_
    refine v_if C dX6_listen_129 (tgt := 136) (by decide) (P := r126 = 0) rfl (fun c129 => ?_) (fun c129 => ?_)
    · replace h := h.1 c129
      refine v_iconst C dX6_listen_136 (by decide) ?_
      refine v_iadd C dX6_listen_137 h.1 ?_
      replace h := h.2
      refine v_iast C dX6_listen_138 rfl h.1.1 h.1.2 ?_
      replace h := h.2
      refine v_nmM (fun M138 eM138 => ?_)
      replace h := h M138 eM138
      refine v_aload_n C dX6_listen_139 rfl ?_
      refine v_get C dX6_listen_140 flX6_18 rfl (by decide) (by decide) (w := .inr (17, i0)) rfl ?_
      refine v_iload_n C dX6_listen_143 rfl ?_
      refine v_iconst C dX6_listen_144 (by decide) ?_
      refine v_iadd C dX6_listen_145 h.1 ?_
      replace h := h.2
      refine v_aload_n C dX6_listen_146 rfl ?_
      refine v_get C dX6_listen_147 flX6_18 rfl (by decide) (by decide) (w := .inr (17, i0)) rfl ?_
      refine v_iload_n C dX6_listen_150 rfl ?_
      refine v_iald C dX6_listen_151 rfl h.1.1 h.1.2 ?_
      replace h := h.2
      refine v_aload_n C dX6_listen_152 rfl ?_
      refine v_aload_n C dX6_listen_153 rfl ?_
      refine v_get C dX6_listen_154 flX6_9 rfl (by decide) (by decide) (w := .inr (15, i0)) rfl ?_
      refine v_iload_n C dX6_listen_157 rfl ?_
      refine v_iald C dX6_listen_158 rfl h.1.1 h.1.2 ?_
      replace h := h.2
      refine v_invV C ctX6_soundCost dX6_listen_159 ivX6_53 ⟨by decide, by decide, rfl, rfl⟩ ((i0, M138 15 i0 x3) : Int × Int) (As := [.inl (M138 15 i0 x3)]) rfl rfl rfl (by decide) rfl (st := [.inl (M138 17 i0 x3), .inl (x3 + 1), .inr (17, i0)]) rfl (Nat.le_of_ble_eq_true rfl) h (fun o M159 oM159 io159 h => ?_)
      obtain ⟨r159, rfl, h⟩ := rI_out h
      refine v_push ?_
      refine v_iadd C dX6_listen_162 h.1 ?_
      replace h := h.2
      refine v_iast C dX6_listen_163 rfl h.1.1 h.1.2 ?_
      replace h := h.2
      refine v_nmM (fun M163 eM163 => ?_)
      replace h := h M163 eM163
      refine v_iinc C dX6_listen_164 (by decide) rfl h.1 (lv' := [some (.inr (14, i0)), none, none, some (.inl (x3 + 1)), none, none, none]) rfl ?_
      replace h := h.2
      refine v_goto C dX6_listen_167 (tgt := 100) (by decide) ?_
      refine v_weak [some (.inr (14, i0)), none, none, some (.inl (x3 + 1)), none, none, none] ⟨rfl, rfl, trivial⟩ ?_
      exact h
    · replace h := h.2 c129
      refine v_iconst C dX6_listen_132 (by decide) ?_
      refine v_goto C dX6_listen_133 (tgt := 137) (by decide) ?_
      refine v_iadd C dX6_listen_137 h.1 ?_
      replace h := h.2
      refine v_iast C dX6_listen_138 rfl h.1.1 h.1.2 ?_
      replace h := h.2
      refine v_nmM (fun M138 eM138 => ?_)
      replace h := h M138 eM138
      refine v_aload_n C dX6_listen_139 rfl ?_
      refine v_get C dX6_listen_140 flX6_18 rfl (by decide) (by decide) (w := .inr (17, i0)) rfl ?_
      refine v_iload_n C dX6_listen_143 rfl ?_
      refine v_iconst C dX6_listen_144 (by decide) ?_
      refine v_iadd C dX6_listen_145 h.1 ?_
      replace h := h.2
      refine v_aload_n C dX6_listen_146 rfl ?_
      refine v_get C dX6_listen_147 flX6_18 rfl (by decide) (by decide) (w := .inr (17, i0)) rfl ?_
      refine v_iload_n C dX6_listen_150 rfl ?_
      refine v_iald C dX6_listen_151 rfl h.1.1 h.1.2 ?_
      replace h := h.2
      refine v_aload_n C dX6_listen_152 rfl ?_
      refine v_aload_n C dX6_listen_153 rfl ?_
      refine v_get C dX6_listen_154 flX6_9 rfl (by decide) (by decide) (w := .inr (15, i0)) rfl ?_
      refine v_iload_n C dX6_listen_157 rfl ?_
      refine v_iald C dX6_listen_158 rfl h.1.1 h.1.2 ?_
      replace h := h.2
      refine v_invV C ctX6_soundCost dX6_listen_159 ivX6_53 ⟨by decide, by decide, rfl, rfl⟩ ((i0, M138 15 i0 x3) : Int × Int) (As := [.inl (M138 15 i0 x3)]) rfl rfl rfl (by decide) rfl (st := [.inl (M138 17 i0 x3), .inl (x3 + 1), .inr (17, i0)]) rfl (Nat.le_of_ble_eq_true rfl) h (fun o M159 oM159 io159 h => ?_)
      obtain ⟨r159, rfl, h⟩ := rI_out h
      refine v_push ?_
      refine v_iadd C dX6_listen_162 h.1 ?_
      replace h := h.2
      refine v_iast C dX6_listen_163 rfl h.1.1 h.1.2 ?_
      replace h := h.2
      refine v_nmM (fun M163 eM163 => ?_)
      replace h := h M163 eM163
      refine v_iinc C dX6_listen_164 (by decide) rfl h.1 (lv' := [some (.inr (14, i0)), none, none, some (.inl (x3 + 1)), none, none, none]) rfl ?_
      replace h := h.2
      refine v_goto C dX6_listen_167 (tgt := 100) (by decide) ?_
      refine v_weak [some (.inr (14, i0)), none, none, some (.inl (x3 + 1)), none, none, none] ⟨rfl, rfl, trivial⟩ ?_
      exact h
set_option maxHeartbeats 4000000 in
set_option maxRecDepth 20000 in
theorem sgX6_listen_67 {κ : Kx} {K : Kont} {M : Mem} (C : Cx κ RX6 cX6_listen 7 none rmX6_listen domC) (i0 : Int) (x1 : Int) (x2 : Int) (x3 : Int) (x4 : Int) (x5 : Int) (x6 : Int)
    (h :
    ((x4 ≤ x6 →
      inR (x3 + 1) ∧
      V κ 7 M 10 [some (.inr (14, i0)), some (.inl x1), some (.inl x2), some (.inl (x3 + 1)), none, none, none] [] K) ∧
     (¬ (x4 ≤ x6) →
      (0 ≤ x6 ∧ x6 < 100) ∧
      (0 ≤ x6 ∧ x6 < 100) ∧
      ∀ M85 : Mem, M85 = up3 M 15 i0 x6 (bOr (M 15 i0 x6) x5) →
      inR (x6 + 1) ∧
      V κ 7 M85 67 [some (.inr (14, i0)), some (.inl x1), some (.inl x2), some (.inl x3), some (.inl x4), some (.inl x5), some (.inl (x6 + 1))] [] K))) : V κ 7 M 67 [some (.inr (14, i0)), some (.inl x1), some (.inl x2), some (.inl x3), some (.inl x4), some (.inl x5), some (.inl x6)] [] K := by
  refine v_iload C dX6_listen_67 rfl ?_
  refine v_iload C dX6_listen_69 rfl ?_
  refine v_icmp C dX6_listen_71 (tgt := 92) (by decide) (P := x4 ≤ x6) rfl (fun c71 => ?_) (fun c71 => ?_)
  · replace h := h.1 c71
    refine v_iinc C dX6_listen_92 (by decide) rfl h.1 (lv' := [some (.inr (14, i0)), some (.inl x1), some (.inl x2), some (.inl (x3 + 1)), some (.inl x4), some (.inl x5), some (.inl x6)]) rfl ?_
    replace h := h.2
    refine v_goto C dX6_listen_95 (tgt := 10) (by decide) ?_
    refine v_weak [some (.inr (14, i0)), some (.inl x1), some (.inl x2), some (.inl (x3 + 1)), none, none, none] ⟨rfl, rfl, rfl, rfl, trivial⟩ ?_
    exact h
  · replace h := h.2 c71
    refine v_aload_n C dX6_listen_74 rfl ?_
    refine v_get C dX6_listen_75 flX6_9 rfl (by decide) (by decide) (w := .inr (15, i0)) rfl ?_
    refine v_iload C dX6_listen_78 rfl ?_
    refine v_dup2 C dX6_listen_80 ?_
    refine v_iald C dX6_listen_81 rfl h.1.1 h.1.2 ?_
    replace h := h.2
    refine v_iload C dX6_listen_82 rfl ?_
    refine v_ior C dX6_listen_84 ?_
    refine v_iast C dX6_listen_85 rfl h.1.1 h.1.2 ?_
    replace h := h.2
    refine v_nmM (fun M85 eM85 => ?_)
    replace h := h M85 eM85
    refine v_iinc C dX6_listen_86 (by decide) rfl h.1 (lv' := [some (.inr (14, i0)), some (.inl x1), some (.inl x2), some (.inl x3), some (.inl x4), some (.inl x5), some (.inl (x6 + 1))]) rfl ?_
    replace h := h.2
    refine v_goto C dX6_listen_89 (tgt := 67) (by decide) ?_
    refine v_weak [some (.inr (14, i0)), some (.inl x1), some (.inl x2), some (.inl x3), some (.inl x4), some (.inl x5), some (.inl (x6 + 1))] ⟨rfl, rfl, rfl, rfl, rfl, rfl, rfl, trivial⟩ ?_
    exact h
abbrev spX6_listen (tr s n : Int) (M : Mem) (K : Kont) : Prop := (WFf (cFilm M 1) ∧ TrB M tr ∧ M 16 tr 0 = 0 ∧ M 17 tr 0 = 0 ∧ (s = -1 ∨ (0 ≤ s ∧ s < M 5 1 3 ∧ 0 ≤ n ∧ n ≤ M 9 1 s - M 8 1 s))) ∧
  ∀ M', AgT M M' tr → TrB M' tr → TrK M' tr (shF (cFilm M 1) s n) → K none M'
theorem shF_7 (F : Film) (s n a b : Int) : shF F s n 7 a b = if a = s ∧ 0 ≤ s then F 7 s b - n else F 7 a b := by
  unfold shF
  by_cases h : a = s ∧ 0 ≤ s
  · rw [if_pos ⟨rfl, h⟩, if_pos h]
  · rw [if_neg (fun q => h q.2), if_neg h]
theorem shF_ne (F : Film) (s n : Int) {t : Nat} (h : t ≠ 7) (a b : Int) : shF F s n t a b = F t a b := by
  unfold shF
  rw [if_neg (fun q => h q.1)]
theorem wf_shF {F : Film} (hf : WFf F) {s n : Int} (hs : s = -1 ∨ (0 ≤ s ∧ s < F 2 0 0 ∧ 0 ≤ n ∧ n ≤ F 7 s 0 - F 6 s 0)) : WFf (shF F s n) := by
  obtain ⟨h1, h2, h3, h4, h5, h6, h7⟩ := hf
  have e : ∀ (t : Nat) (a b : Int), t ≠ 7 → shF F s n t a b = F t a b := fun t a b h => shF_ne F s n h a b
  refine ⟨by rw [e _ _ _ (by decide)]; exact h1, by rw [e _ _ _ (by decide)]; exact h2, by rw [e _ _ _ (by decide)]; exact h3, by rw [e _ _ _ (by decide)]; exact h4, fun w a b => by rw [e _ _ _ (by decide)]; exact h5 w a b, fun q a b => ?_, fun p a b => ?_⟩
  · rw [e _ _ _ (by decide)] at b
    have := h6 q a b
    unfold WFs at this ⊢
    rw [e 5 _ _ (by decide), e 6 _ _ (by decide), e 0 _ _ (by decide), shF_7]
    split
    · rename_i hc
      obtain ⟨hc1, hc2⟩ := hc
      subst hc1
      omega
    · omega
  · rw [e _ _ _ (by decide)] at b
    have := h7 p a b
    unfold WFp at this ⊢
    simp only [e 8 _ _ (by decide), e 9 _ _ (by decide), e 10 _ _ (by decide), e 11 _ _ (by decide), e 12 _ _ (by decide), e 13 _ _ (by decide), e 14 _ _ (by decide), e 0 _ _ (by decide)]
    exact this
theorem ctX6_listen : CtX6_listen spX6_listen := by
  refine ct_of (by decide) dmC (fun _ => Nat.le_of_ble_eq_true rfl) ?_
  intro κ a M K C oM h
  obtain ⟨tr, s, n⟩ := a
  refine sgX6_listen_0 C tr s n ?_
  dsimp only [spX6_listen] at h
  obtain ⟨⟨hf, hb, hz1, hz2, hs⟩, hk⟩ := h
  have hG : WFf (shF (cFilm M 1) s n) := wf_shF hf hs
  generalize hGe : shF (cFilm M 1) s n = G at hk hG
  have eG : ∀ (t : Nat) (a b : Int), t ≠ 7 → G t a b = cFilm M 1 t a b := fun t a b h => by rw [← hGe]; exact shF_ne _ s n h a b
  have hT := hf.1
  have hS := hf.2.2.1
  simp only [cFilm] at hT hS
  have g0 : G 0 0 0 = M 5 1 0 := eG 0 0 0 (by decide)
  have g2 : G 2 0 0 = M 5 1 3 := eG 2 0 0 (by decide)
  -- what stays: J
  have film : ∀ M', AgT M M' tr → ∀ r i, 5 ≤ r → r ≤ 13 → M' r i = M r i := fun M' h r i h1 h2 => h r i (by omega)
  -- the last loop
  have last : ∀ (k : Nat) (t : Int) (M' : Mem), 0 ≤ t → t + k = M 5 1 0 → AgT M M' tr → TrB M' tr → (∀ u, 0 ≤ u → u < 100 → M' 15 tr u = mkF G u) → (∀ u, 0 ≤ u → u ≤ t → M' 16 tr u = spb G u ∧ M' 17 tr u = csb G u) →
      V κ 7 M' 100 [some (.inr (14, tr)), none, none, some (.inl t), none, none, none] [] K := by
    intro k
    induction k with
    | zero =>
      intro t M' h0 hn hA hB hm hu
      have e := film M' hA 5 1 (by decide) (by decide)
      refine sgX6_listen_100 C tr t ⟨fun c => ?_, fun c => absurd (by rw [e]; omega) c⟩
      exact hk M' hA hB ⟨hm, fun u a b => hu u a (by omega)⟩
    | succ k ih =>
      intro t M' h0 hn hA hB hm hu
      have e := film M' hA 5 1 (by decide) (by decide)
      have e6 := film M' hA 6 1 (by decide) (by decide)
      have hut := hu t h0 (by omega)
      have hr1 := spb_rng G (t := t) h0 (by omega)
      have hr2 := csb_rng hG (t := t) h0 (by omega)
      have hr3 := spb_rng G (t := t + 1) (by omega) (by omega)
      have hr4 := csb_rng hG (t := t + 1) (by omega) (by omega)
      have hs1 := spb_s G h0
      have hs2 := csb_s G h0
      have hmt := hm t h0 (by omega)
      have tail : ∀ z, z = spc G t → inR (M' 16 tr t + z) ∧ (0 ≤ t + 1 ∧ t + 1 < 101) ∧ ∀ M138 : Mem, M138 = up3 M' 16 tr (t + 1) (M' 16 tr t + z) → inR (t + 1) ∧ (0 ≤ t ∧ t < 101) ∧ (0 ≤ t ∧ t < 100) ∧
          spX6_soundCost tr (M138 15 tr t) M138 (rI (fun r159 M159 => inR (M138 17 tr t + r159) ∧ (0 ≤ t + 1 ∧ t + 1 < 101) ∧ ∀ M163 : Mem, M163 = up3 M159 17 tr (t + 1) (M138 17 tr t + r159) → inR (t + 1) ∧
            V κ 7 M163 100 [some (.inr (14, tr)), none, none, some (.inl (t + 1)), none, none, none] [] K)) := by
        intro z ez
        refine ⟨by omega, by omega, fun N eN => ⟨by omega, by omega, by omega, ?_⟩⟩
        have n15 : N 15 tr t = mkF G t := by rw [eN, up3_r _ _ _ _ _ (by decide), hmt]
        have n17 : N 17 tr t = csb G t := by rw [eN, up3_r _ _ _ _ _ (by decide), hut.2]
        have n62 : N 6 1 2 = G 4 2 0 := by rw [eN, up3_r _ _ _ _ _ (by decide), e6, eG 4 2 0 (by decide)]; rfl
        have n63 : N 6 1 3 = G 4 3 0 := by rw [eN, up3_r _ _ _ _ _ (by decide), e6, eG 4 3 0 (by decide)]; rfl
        have ec : (if bAnd (N 15 tr t) 2 ≠ 0 then N 6 1 2 else if bAnd (N 15 tr t) 4 ≠ 0 then N 6 1 3 else 0) = cst G t := by rw [n15, n62, n63]; rfl
        show inR (N 17 tr t + (if bAnd (N 15 tr t) 2 ≠ 0 then N 6 1 2 else if bAnd (N 15 tr t) 4 ≠ 0 then N 6 1 3 else 0)) ∧ _
        rw [ec, n17]
        refine ⟨by omega, by omega, fun N2 eN2 => ⟨by omega, ?_⟩⟩
        have hA2 : AgT M N2 tr := by rw [eN2, eN]; exact (hA.up (by decide) _ _).up (by decide) _ _
        have v16 : ∀ u, N2 16 tr u = if u = t + 1 then M' 16 tr t + z else M' 16 tr u := by
          intro u
          rw [eN2, up3_r _ _ _ _ _ (by decide), eN]
          by_cases q : u = t + 1
          · rw [if_pos q, q, up3_s]
          · rw [if_neg q, up3_j _ _ _ _ _ q]
        have v17 : ∀ u, N2 17 tr u = if u = t + 1 then csb G t + cst G t else M' 17 tr u := by
          intro u
          rw [eN2]
          by_cases q : u = t + 1
          · rw [if_pos q, q, up3_s]
          · rw [if_neg q, up3_j _ _ _ _ _ q, eN, up3_r _ _ _ _ _ (by decide)]
        refine ih (t + 1) N2 (by omega) (by omega) hA2 ?_ ?_ ?_
        · intro u a b
          have := hB u a b
          rw [v16, v17]
          split <;> omega
        · intro u a b
          rw [eN2, up3_r _ _ _ _ _ (by decide), eN, up3_r _ _ _ _ _ (by decide)]
          exact hm u a b
        · intro u a b
          rw [v16, v17]
          by_cases q : u = t + 1
          · rw [if_pos q, if_pos q, q, hs1, hs2]
            omega
          · rw [if_neg q, if_neg q]
            exact hu u a (by omega)
      refine sgX6_listen_100 C tr t ⟨fun c => absurd c (by rw [e]; omega), fun c => ⟨by omega, by omega, ⟨h0, by omega⟩, fun c2 => ?_, fun c2 => ?_⟩⟩
      · refine tail 0 ?_
        unfold spc
        rw [← hmt]
        exact c2.symm
      · refine tail 1 ?_
        unfold spc
        rw [← hmt]
        split
        · rename_i q
          rw [if_pos q] at c2
          exact absurd rfl c2
        · rfl
  -- the sounds, one by one
  have outer : ∀ (k : Nat) (q : Int) (M' : Mem), 0 ≤ q → q + k = M 5 1 3 → AgT M M' tr → TrB M' tr → M' 16 tr 0 = 0 → M' 17 tr 0 = 0 → (∀ u, 0 ≤ u → u < 100 → M' 15 tr u = mkN G u q.toNat) →
      V κ 7 M' 10 [some (.inr (14, tr)), some (.inl s), some (.inl n), some (.inl q), none, none, none] [] K := by
    intro k
    induction k with
    | zero =>
      intro q M' h0 hn hA hB hz1 hz2 hm
      have e := film M' hA 5 1 (by decide) (by decide)
      refine sgX6_listen_10 C tr s n q ⟨fun c => ?_, fun c => absurd (by rw [e]; omega) c⟩
      refine last (M 5 1 0).toNat 0 M' (by omega) (by omega) hA hB ?_ ?_
      · intro u a b
        rw [hm u a b]
        have : q = G 2 0 0 := by omega
        rw [this]
        rfl
      · intro u a b
        have : u = 0 := by omega
        rw [this, hz1, hz2]
        exact ⟨rfl, rfl⟩
    | succ k ih =>
      intro q M' h0 hn hA hB hz1 hz2 hm
      have e := film M' hA 5 1 (by decide) (by decide)
      have e7 := film M' hA 7 1 (by decide) (by decide)
      have e8 := film M' hA 8 1 (by decide) (by decide)
      have e9 := film M' hA 9 1 (by decide) (by decide)
      have hw := hG.2.2.2.2.2.1 q h0 (by omega)
      unfold WFs at hw
      rw [g0] at hw
      have g5 : G 5 q 0 = M 7 1 q := eG 5 q 0 (by decide)
      have g6 : G 6 q 0 = M 8 1 q := eG 6 q 0 (by decide)
      have inner : ∀ (k2 : Nat) (t : Int) (N : Mem), G 6 q 0 ≤ t → t + k2 = G 7 q 0 → AgT M N tr → TrB N tr → N 16 tr 0 = 0 → N 17 tr 0 = 0 → (∀ u, 0 ≤ u → u < 100 → N 15 tr u = if G 6 q 0 ≤ u ∧ u < t then bOr (mkN G u q.toNat) (bShl 1 (G 5 q 0)) else mkN G u q.toNat) →
          V κ 7 N 67 [some (.inr (14, tr)), some (.inl s), some (.inl n), some (.inl q), some (.inl (G 7 q 0)), some (.inl (bShl 1 (G 5 q 0))), some (.inl t)] [] K := by
        intro k2
        induction k2 with
        | zero =>
          intro t N hb0 hn2 hA hB hz1 hz2 hm2
          refine sgX6_listen_67 C tr s n q _ _ t ⟨fun c => ⟨by omega, ?_⟩, fun c => absurd (by omega) c⟩
          refine ih (q + 1) N (by omega) (by omega) hA hB hz1 hz2 ?_
          intro u a b
          rw [hm2 u a b, toNat_s h0]
          show _ = if G 6 (q.toNat : Int) 0 ≤ u ∧ u < G 7 (q.toNat : Int) 0 then bOr (mkN G u q.toNat) (bShl 1 (G 5 (q.toNat : Int) 0)) else mkN G u q.toNat
          rw [oi_nat h0]
          have : t = G 7 q 0 := by omega
          rw [this]
        | succ k2 ih2 =>
          intro t N hb0 hn2 hA hB hz1 hz2 hm2
          refine sgX6_listen_67 C tr s n q _ _ t ⟨fun c => absurd c (by omega), fun c => ⟨by omega, by omega, fun N2 eN2 => ⟨by omega, ?_⟩⟩⟩
          have hA2 : AgT M N2 tr := by rw [eN2]; exact hA.up (by decide) _ _
          refine ih2 (t + 1) N2 (by omega) (by omega) hA2 ?_ ?_ ?_ ?_
          · intro u a b
            rw [eN2, up3_r _ _ _ _ _ (by decide), up3_r _ _ _ _ _ (by decide)]
            exact hB u a b
          · rw [eN2, up3_r _ _ _ _ _ (by decide)]
            exact hz1
          · rw [eN2, up3_r _ _ _ _ _ (by decide)]
            exact hz2
          · intro u a b
            rw [eN2]
            by_cases hut : u = t
            · rw [hut, up3_s, hm2 t (by omega) (by omega), if_neg (by omega), if_pos (by omega)]
            · rw [up3_j _ _ _ _ _ hut, hm2 u a b]
              by_cases hc : G 6 q 0 ≤ u ∧ u < t
              · rw [if_pos hc, if_pos (by omega)]
              · rw [if_neg hc, if_neg (by omega)]
      have start := inner (G 7 q 0 - G 6 q 0).toNat (G 6 q 0) M' (by omega) (by omega) hA hB hz1 hz2 (fun u a b => by rw [hm u a b, if_neg (by omega)])
      rw [g5, g6] at start
      refine sgX6_listen_10 C tr s n q ⟨fun c => absurd c (by rw [e]; omega), fun c => ⟨by omega, fun c2 => ?_, fun c2 => ?_⟩⟩
      · have g7 : G 7 q 0 = M 9 1 q - 0 := by
          rw [← hGe, shF_7, if_neg (fun z => c2 z.1)]
          show M 9 1 q = _
          omega
        rw [e7, e8, e9]
        refine ⟨by omega, fun y4 ey4 => ⟨by omega, fun y5 ey5 => ⟨by omega, ?_⟩⟩⟩
        rw [ey4, ey5, ← g7]
        exact start
      · have g7 : G 7 q 0 = M 9 1 q - n := by
          have c3 : q = s := by omega
          rw [← hGe, shF_7, if_pos ⟨c3, by omega⟩, ← c3]
          rfl
        rw [e7, e8, e9]
        refine ⟨by omega, fun y4 ey4 => ⟨by omega, fun y5 ey5 => ⟨by omega, ?_⟩⟩⟩
        rw [ey4, ey5, ← g7]
        exact start
  intro N eN
  have hA : AgT M N tr := by
    intro r i hn
    rw [eN]
    funext j
    unfold filM
    rw [if_neg (fun z => hn ⟨Or.inl z.1, z.2.1⟩)]
  have o16 : ∀ r j, r ≠ 15 → N r tr j = M r tr j := by
    intro r j hr
    rw [eN]
    unfold filM
    rw [if_neg (fun z => hr z.1)]
  refine outer (M 5 1 3).toNat 0 N (by omega) (by omega) hA ?_ (by rw [o16 16 0 (by decide)]; exact hz1) (by rw [o16 17 0 (by decide)]; exact hz2) ?_
  · intro u a b
    rw [o16 16 u (by decide), o16 17 u (by decide)]
    exact hb u a b
  · intro u a b
    rw [eN]
    unfold filM
    rw [if_pos ⟨rfl, rfl, a, b⟩]
    rfl
end
section
/-! ===== Plan ===== -/
/-! ===== GapTellings$Plan.has ===== -/
abbrev rmX4_has : Room := { frames := 0, cells := 0, slots := 0, locals := 0 }
abbrev argX4_has (a : Int × Int) : List PV := [.inr (18, a.1), .inl a.2]
abbrev CtX4_has (sp : Int → Int → Mem → Kont → Prop) : Prop := Ct yX4_has cX4_has 2 (some .boolean) rmX4_has domC argX4_has (fun a => sp a.1 a.2)
theorem dX4_has_0 : decode cX4_has 0 = .ok (.aload_n 0, 1) := by decide +kernel
theorem dX4_has_1 : decode cX4_has 1 = .ok (.getfield 9, 3) := by decide +kernel
theorem dX4_has_4 : decode cX4_has 4 = .ok (.iload_n 1, 1) := by decide +kernel
theorem dX4_has_5 : decode cX4_has 5 = .ok (.iaload, 1) := by decide +kernel
theorem dX4_has_6 : decode cX4_has 6 = .ok (.bipush (-4), 2) := by decide +kernel
theorem dX4_has_8 : decode cX4_has 8 = .ok (.if_icmp .eq 7, 3) := by decide +kernel
theorem dX4_has_11 : decode cX4_has 11 = .ok (.iconst 1, 1) := by decide +kernel
theorem dX4_has_12 : decode cX4_has 12 = .ok (.goto 4, 3) := by decide +kernel
theorem dX4_has_15 : decode cX4_has 15 = .ok (.iconst 0, 1) := by decide +kernel
theorem dX4_has_16 : decode cX4_has 16 = .ok (.ireturn, 1) := by decide +kernel
theorem flX4_9 : FL RX4 9 4 1 := ⟨_, _, _, rfl, by decide, uwX4, Or.inl (tb_mem (t_in1 (List.mem_of_getElem? (i := 194) (by decide +kernel))) (by decide +kernel))⟩
set_option maxHeartbeats 4000000 in
set_option maxRecDepth 20000 in
theorem sgX4_has_0 {κ : Kx} {K : Kont} {M : Mem} (C : Cx κ RX4 cX4_has 2 (some .boolean) rmX4_has domC) (i0 : Int) (x1 : Int)
    (h :
    (0 ≤ x1 ∧ x1 < 7) ∧
    (((M 19 i0 x1) = (-4) →
      K (some 0) M) ∧
     (¬ ((M 19 i0 x1) = (-4)) →
      K (some 1) M))) : V κ 2 M 0 [some (.inr (18, i0)), some (.inl x1)] [] K := by
  refine v_aload_n C dX4_has_0 rfl ?_
  refine v_get C dX4_has_1 flX4_9 rfl (by decide) (by decide) (w := .inr (19, i0)) rfl ?_
  refine v_iload_n C dX4_has_4 rfl ?_
  refine v_iald C dX4_has_5 rfl h.1.1 h.1.2 ?_
  replace h := h.2
  refine v_bipush C dX4_has_6 (by decide) (by decide) ?_
  refine v_icmp C dX4_has_8 (tgt := 15) (by decide) (P := (M 19 i0 x1) = (-4)) rfl (fun c8 => ?_) (fun c8 => ?_)
  · replace h := h.1 c8
    refine v_iconst C dX4_has_15 (by decide) ?_
    exact v_zret C dX4_has_16 (by decide) h
  · replace h := h.2 c8
    refine v_iconst C dX4_has_11 (by decide) ?_
    refine v_goto C dX4_has_12 (tgt := 16) (by decide) ?_
    exact v_zret C dX4_has_16 (by decide) h
abbrev spX4_has (pl p : Int) (M : Mem) (K : Kont) : Prop := (0 ≤ p ∧ p < 7) ∧ K (some (if M 19 pl p = -4 then 0 else 1)) M
theorem ctX4_has : CtX4_has spX4_has := by
  refine ct_of (by decide) dmC (fun _ => Nat.le_of_ble_eq_true rfl) ?_
  intro κ a M K C oM h
  obtain ⟨pl, p⟩ := a
  refine sgX4_has_0 C pl p ?_
  dsimp only [spX4_has] at h
  clear C
  grind
/-! ===== GapTellings$Plan.put ===== -/
abbrev rmX4_put : Room := { frames := 0, cells := 0, slots := 0, locals := 0 }
abbrev argX4_put (a : Int × Int × Int × Int) : List PV := [.inr (18, a.1), .inl a.2.1, .inl a.2.2.1, .inl a.2.2.2]
abbrev CtX4_put (sp : Int → Int → Int → Int → Mem → Kont → Prop) : Prop := Ct yX4_put cX4_put 4 none rmX4_put domC argX4_put (fun a => sp a.1 a.2.1 a.2.2.1 a.2.2.2)
theorem dX4_put_0 : decode cX4_put 0 = .ok (.aload_n 0, 1) := by decide +kernel
theorem dX4_put_1 : decode cX4_put 1 = .ok (.getfield 9, 3) := by decide +kernel
theorem dX4_put_4 : decode cX4_put 4 = .ok (.iload_n 1, 1) := by decide +kernel
theorem dX4_put_5 : decode cX4_put 5 = .ok (.iload_n 2, 1) := by decide +kernel
theorem dX4_put_6 : decode cX4_put 6 = .ok (.iastore, 1) := by decide +kernel
theorem dX4_put_7 : decode cX4_put 7 = .ok (.aload_n 0, 1) := by decide +kernel
theorem dX4_put_8 : decode cX4_put 8 = .ok (.getfield 15, 3) := by decide +kernel
theorem dX4_put_11 : decode cX4_put 11 = .ok (.iload_n 1, 1) := by decide +kernel
theorem dX4_put_12 : decode cX4_put 12 = .ok (.iload_n 3, 1) := by decide +kernel
theorem dX4_put_13 : decode cX4_put 13 = .ok (.iastore, 1) := by decide +kernel
theorem dX4_put_14 : decode cX4_put 14 = .ok (.return_, 1) := by decide +kernel
theorem flX4_15 : FL RX4 15 4 2 := ⟨_, _, _, rfl, by decide, uwX4, Or.inl (tb_mem (t_in1 (List.mem_of_getElem? (i := 197) (by decide +kernel))) (by decide +kernel))⟩
set_option maxHeartbeats 4000000 in
set_option maxRecDepth 20000 in
theorem sgX4_put_0 {κ : Kx} {K : Kont} {M : Mem} (C : Cx κ RX4 cX4_put 4 none rmX4_put domC) (i0 : Int) (x1 : Int) (x2 : Int) (x3 : Int)
    (h :
    (0 ≤ x1 ∧ x1 < 7) ∧
    ∀ M6 : Mem, M6 = up3 M 19 i0 x1 x2 →
    (0 ≤ x1 ∧ x1 < 7) ∧
    ∀ M13 : Mem, M13 = up3 M6 20 i0 x1 x3 →
    K none M13) : V κ 4 M 0 [some (.inr (18, i0)), some (.inl x1), some (.inl x2), some (.inl x3)] [] K := by
  refine v_aload_n C dX4_put_0 rfl ?_
  refine v_get C dX4_put_1 flX4_9 rfl (by decide) (by decide) (w := .inr (19, i0)) rfl ?_
  refine v_iload_n C dX4_put_4 rfl ?_
  refine v_iload_n C dX4_put_5 rfl ?_
  refine v_iast C dX4_put_6 rfl h.1.1 h.1.2 ?_
  replace h := h.2
  refine v_nmM (fun M6 eM6 => ?_)
  replace h := h M6 eM6
  refine v_aload_n C dX4_put_7 rfl ?_
  refine v_get C dX4_put_8 flX4_15 rfl (by decide) (by decide) (w := .inr (20, i0)) rfl ?_
  refine v_iload_n C dX4_put_11 rfl ?_
  refine v_iload_n C dX4_put_12 rfl ?_
  refine v_iast C dX4_put_13 rfl h.1.1 h.1.2 ?_
  replace h := h.2
  refine v_nmM (fun M13 eM13 => ?_)
  replace h := h M13 eM13
  exact v_vret C dX4_put_14 h
abbrev spX4_put (pl p v t : Int) (M : Mem) (K : Kont) : Prop := (0 ≤ p ∧ p < 7) ∧ K none (up3 (up3 M 19 pl p v) 20 pl p t)
theorem ctX4_put : CtX4_put spX4_put := by
  refine ct_of (by decide) dmC (fun _ => Nat.le_of_ble_eq_true rfl) ?_
  intro κ a M K C oM h
  obtain ⟨pl, p, v, t⟩ := a
  exact sgX4_put_0 C pl p v t ⟨h.1, fun M1 e1 => ⟨h.1, fun M2 e2 => by rw [e2, e1]; exact h.2⟩⟩
/-! ===== GapTellings$Plan.drop ===== -/
abbrev rmX4_drop : Room := { frames := 0, cells := 0, slots := 0, locals := 0 }
abbrev argX4_drop (a : Int × Int) : List PV := [.inr (18, a.1), .inl a.2]
abbrev CtX4_drop (sp : Int → Int → Mem → Kont → Prop) : Prop := Ct yX4_drop cX4_drop 2 none rmX4_drop domC argX4_drop (fun a => sp a.1 a.2)
theorem dX4_drop_0 : decode cX4_drop 0 = .ok (.aload_n 0, 1) := by decide +kernel
theorem dX4_drop_1 : decode cX4_drop 1 = .ok (.getfield 9, 3) := by decide +kernel
theorem dX4_drop_4 : decode cX4_drop 4 = .ok (.iload_n 1, 1) := by decide +kernel
theorem dX4_drop_5 : decode cX4_drop 5 = .ok (.bipush (-4), 2) := by decide +kernel
theorem dX4_drop_7 : decode cX4_drop 7 = .ok (.iastore, 1) := by decide +kernel
theorem dX4_drop_8 : decode cX4_drop 8 = .ok (.aload_n 0, 1) := by decide +kernel
theorem dX4_drop_9 : decode cX4_drop 9 = .ok (.getfield 15, 3) := by decide +kernel
theorem dX4_drop_12 : decode cX4_drop 12 = .ok (.iload_n 1, 1) := by decide +kernel
theorem dX4_drop_13 : decode cX4_drop 13 = .ok (.bipush (-4), 2) := by decide +kernel
theorem dX4_drop_15 : decode cX4_drop 15 = .ok (.iastore, 1) := by decide +kernel
theorem dX4_drop_16 : decode cX4_drop 16 = .ok (.return_, 1) := by decide +kernel
set_option maxHeartbeats 4000000 in
set_option maxRecDepth 20000 in
theorem sgX4_drop_0 {κ : Kx} {K : Kont} {M : Mem} (C : Cx κ RX4 cX4_drop 2 none rmX4_drop domC) (i0 : Int) (x1 : Int)
    (h :
    (0 ≤ x1 ∧ x1 < 7) ∧
    ∀ M7 : Mem, M7 = up3 M 19 i0 x1 (-4) →
    (0 ≤ x1 ∧ x1 < 7) ∧
    ∀ M15 : Mem, M15 = up3 M7 20 i0 x1 (-4) →
    K none M15) : V κ 2 M 0 [some (.inr (18, i0)), some (.inl x1)] [] K := by
  refine v_aload_n C dX4_drop_0 rfl ?_
  refine v_get C dX4_drop_1 flX4_9 rfl (by decide) (by decide) (w := .inr (19, i0)) rfl ?_
  refine v_iload_n C dX4_drop_4 rfl ?_
  refine v_bipush C dX4_drop_5 (by decide) (by decide) ?_
  refine v_iast C dX4_drop_7 rfl h.1.1 h.1.2 ?_
  replace h := h.2
  refine v_nmM (fun M7 eM7 => ?_)
  replace h := h M7 eM7
  refine v_aload_n C dX4_drop_8 rfl ?_
  refine v_get C dX4_drop_9 flX4_15 rfl (by decide) (by decide) (w := .inr (20, i0)) rfl ?_
  refine v_iload_n C dX4_drop_12 rfl ?_
  refine v_bipush C dX4_drop_13 (by decide) (by decide) ?_
  refine v_iast C dX4_drop_15 rfl h.1.1 h.1.2 ?_
  replace h := h.2
  refine v_nmM (fun M15 eM15 => ?_)
  replace h := h M15 eM15
  exact v_vret C dX4_drop_16 h
abbrev spX4_drop (pl p : Int) (M : Mem) (K : Kont) : Prop := (0 ≤ p ∧ p < 7) ∧ K none (up3 (up3 M 19 pl p (-4)) 20 pl p (-4))
theorem ctX4_drop : CtX4_drop spX4_drop := by
  refine ct_of (by decide) dmC (fun _ => Nat.le_of_ble_eq_true rfl) ?_
  intro κ a M K C oM h
  obtain ⟨pl, p⟩ := a
  exact sgX4_drop_0 C pl p ⟨h.1, fun M1 e1 => ⟨h.1, fun M2 e2 => by rw [e2, e1]; exact h.2⟩⟩
/-! ===== GapTellings$Plan.clear ===== -/
abbrev rmX4_clear : Room := { frames := 1, cells := 0, slots := 0, locals := 23 }
abbrev argX4_clear (a : Int) : List PV := [.inr (18, a)]
abbrev CtX4_clear (sp : Int → Mem → Kont → Prop) : Prop := Ct yX4_clear cX4_clear 1 none rmX4_clear domC argX4_clear (fun a => sp a)
theorem dX4_clear_0 : decode cX4_clear 0 = .ok (.aload_n 0, 1) := by decide +kernel
theorem dX4_clear_1 : decode cX4_clear 1 = .ok (.getfield 9, 3) := by decide +kernel
theorem dX4_clear_4 : decode cX4_clear 4 = .ok (.bipush (-4), 2) := by decide +kernel
theorem dX4_clear_6 : decode cX4_clear 6 = .ok (.invokestatic 22, 3) := by decide +kernel
theorem dX4_clear_9 : decode cX4_clear 9 = .ok (.aload_n 0, 1) := by decide +kernel
theorem dX4_clear_10 : decode cX4_clear 10 = .ok (.getfield 15, 3) := by decide +kernel
theorem dX4_clear_13 : decode cX4_clear 13 = .ok (.bipush (-4), 2) := by decide +kernel
theorem dX4_clear_15 : decode cX4_clear 15 = .ok (.invokestatic 22, 3) := by decide +kernel
theorem dX4_clear_18 : decode cX4_clear 18 = .ok (.return_, 1) := by decide +kernel
theorem ivX4_22 : IS RX4 22 yJ7_fill_53178 cJ7_fill_53178 4 none 2 := ⟨(tb_mem (t_in1 (List.mem_of_getElem? (i := 190) (by decide +kernel))) (by decide +kernel)), (tb_mem (t_in1 (List.mem_of_getElem? (i := 191) (by decide +kernel))) (by decide +kernel)), (tb_mem (t_in1 (List.mem_of_getElem? (i := 7) (by decide +kernel))) (by decide +kernel)), (tb_mem (t_in1 (List.mem_of_getElem? (i := 192) (by decide +kernel))) (by decide +kernel)), ⟨by decide +kernel, by decide +kernel, by decide +kernel⟩⟩
set_option maxHeartbeats 4000000 in
set_option maxRecDepth 20000 in
theorem sgX4_clear_0 {κ : Kx} {K : Kont} {M : Mem} (C : Cx κ RX4 cX4_clear 1 none rmX4_clear domC) (i0 : Int)
    (h :
    ∀ M6 : Mem, M6 = filM M 19 i0 7 (-4) →
    ∀ M15 : Mem, M15 = filM M6 20 i0 7 (-4) →
    K none M15) : V κ 1 M 0 [some (.inr (18, i0))] [] K := by
  refine v_aload_n C dX4_clear_0 rfl ?_
  refine v_get C dX4_clear_1 flX4_9 rfl (by decide) (by decide) (w := .inr (19, i0)) rfl ?_
  refine v_bipush C dX4_clear_4 (by decide) (by decide) ?_
  refine v_invS C (ctFill domC (Or.inl rfl)) dX4_clear_6 ivX4_22 ⟨by decide, by decide, rfl, rfl⟩ ((19, i0, (-4)) : Nat × Int × Int) rfl (st := []) rfl (Nat.le_of_ble_eq_true rfl) (K1 := rV (fun M' => M' = filM M 19 i0 7 (-4))) ⟨rfl, rfl⟩ (fun o M6 oM6 io h6 => ?_)
  obtain ⟨rfl, eM6⟩ := rV_out h6
  refine v_push0 ?_
  replace h := h M6 eM6
  refine v_aload_n C dX4_clear_9 rfl ?_
  refine v_get C dX4_clear_10 flX4_15 rfl (by decide) (by decide) (w := .inr (20, i0)) rfl ?_
  refine v_bipush C dX4_clear_13 (by decide) (by decide) ?_
  refine v_invS C (ctFill domC (Or.inl rfl)) dX4_clear_15 ivX4_22 ⟨by decide, by decide, rfl, rfl⟩ ((20, i0, (-4)) : Nat × Int × Int) rfl (st := []) rfl (Nat.le_of_ble_eq_true rfl) (K1 := rV (fun M' => M' = filM M6 20 i0 7 (-4))) ⟨rfl, rfl⟩ (fun o M15 oM15 io h15 => ?_)
  obtain ⟨rfl, eM15⟩ := rV_out h15
  refine v_push0 ?_
  replace h := h M15 eM15
  exact v_vret C dX4_clear_18 h
abbrev spX4_clear (pl : Int) (M : Mem) (K : Kont) : Prop := K none (filM (filM M 19 pl 7 (-4)) 20 pl 7 (-4))
theorem ctX4_clear : CtX4_clear spX4_clear := by
  refine ct_of (by decide) dmC (fun _ => Nat.le_of_ble_eq_true rfl) ?_
  intro κ pl M K C oM h
  exact sgX4_clear_0 C pl (fun M1 e1 M2 e2 => by rw [e2, e1]; exact h)
/-! ===== GapTellings$Plan.size ===== -/
abbrev rmX4_size : Room := { frames := 1, cells := 0, slots := 0, locals := 21 }
abbrev argX4_size (a : Int) : List PV := [.inr (18, a)]
abbrev CtX4_size (sp : Int → Mem → Kont → Prop) : Prop := Ct yX4_size cX4_size 3 (some .int) rmX4_size domC argX4_size (fun a => sp a)
theorem dX4_size_0 : decode cX4_size 0 = .ok (.iconst 0, 1) := by decide +kernel
theorem dX4_size_1 : decode cX4_size 1 = .ok (.istore_n 1, 1) := by decide +kernel
theorem dX4_size_2 : decode cX4_size 2 = .ok (.iconst 0, 1) := by decide +kernel
theorem dX4_size_3 : decode cX4_size 3 = .ok (.istore_n 2, 1) := by decide +kernel
theorem dX4_size_4 : decode cX4_size 4 = .ok (.iload_n 2, 1) := by decide +kernel
theorem dX4_size_5 : decode cX4_size 5 = .ok (.aload_n 0, 1) := by decide +kernel
theorem dX4_size_6 : decode cX4_size 6 = .ok (.getfield 18, 3) := by decide +kernel
theorem dX4_size_9 : decode cX4_size 9 = .ok (.getfield 34, 3) := by decide +kernel
theorem dX4_size_12 : decode cX4_size 12 = .ok (.if_icmp .ge 20, 3) := by decide +kernel
theorem dX4_size_15 : decode cX4_size 15 = .ok (.aload_n 0, 1) := by decide +kernel
theorem dX4_size_16 : decode cX4_size 16 = .ok (.iload_n 2, 1) := by decide +kernel
theorem dX4_size_17 : decode cX4_size 17 = .ok (.invokevirtual 40, 3) := by decide +kernel
theorem dX4_size_20 : decode cX4_size 20 = .ok (.ifCond .eq 6, 3) := by decide +kernel
theorem dX4_size_23 : decode cX4_size 23 = .ok (.iinc 1 1, 3) := by decide +kernel
theorem dX4_size_26 : decode cX4_size 26 = .ok (.iinc 2 1, 3) := by decide +kernel
theorem dX4_size_29 : decode cX4_size 29 = .ok (.goto (-25), 3) := by decide +kernel
theorem dX4_size_32 : decode cX4_size 32 = .ok (.iload_n 1, 1) := by decide +kernel
theorem dX4_size_33 : decode cX4_size 33 = .ok (.ireturn, 1) := by decide +kernel
theorem flX4_18 : FL RX4 18 4 0 := ⟨_, _, _, rfl, by decide, uwX4, Or.inl (tb_mem (t_in1 (List.mem_of_getElem? (i := 193) (by decide +kernel))) (by decide +kernel))⟩
theorem flX4_34 : FL RX4 34 1 7 := ⟨_, _, _, rfl, by decide, uwX1, Or.inr ⟨"GapTellings", (nw_mem (t_in1 (List.mem_of_getElem? (i := 135) (by decide +kernel))) (by decide +kernel))⟩⟩
theorem ivX4_40 : IV RX4 40 yX4_has cX4_has 2 (some .boolean) 1 := ⟨(tb_mem (t_in3 (List.mem_of_getElem? (i := 53) (by decide +kernel))) (by decide +kernel)), (tb_mem (t_in3 (List.mem_of_getElem? (i := 54) (by decide +kernel))) (by decide +kernel)), (tb_mem (t_in3 (List.mem_of_getElem? (i := 55) (by decide +kernel))) (by decide +kernel)), (tb_mem (t_in1 (List.mem_of_getElem? (i := 6) (by decide +kernel))) (by decide +kernel)), (tb_mem (t_in3 (List.mem_of_getElem? (i := 56) (by decide +kernel))) (by decide +kernel)), ⟨by decide +kernel, by decide +kernel, by decide +kernel⟩⟩
set_option maxHeartbeats 4000000 in
set_option maxRecDepth 20000 in
theorem sgX4_size_0 {κ : Kx} {K : Kont} {M : Mem} (C : Cx κ RX4 cX4_size 3 (some .int) rmX4_size domC) (i0 : Int)
    (h :
    V κ 3 M 4 [some (.inr (18, i0)), some (.inl 0), some (.inl 0)] [] K) : V κ 3 M 0 [some (.inr (18, i0)), none, none] [] K := by
  refine v_iconst C dX4_size_0 (by decide) ?_
  refine v_istore_n C dX4_size_1 (by decide) (Nat.le_of_ble_eq_true rfl) (lv' := [some (.inr (18, i0)), some (.inl 0), none]) rfl ?_
  refine v_iconst C dX4_size_2 (by decide) ?_
  refine v_istore_n C dX4_size_3 (by decide) (Nat.le_of_ble_eq_true rfl) (lv' := [some (.inr (18, i0)), some (.inl 0), some (.inl 0)]) rfl ?_
  refine v_weak [some (.inr (18, i0)), some (.inl 0), some (.inl 0)] ⟨rfl, rfl, rfl, trivial⟩ ?_
  exact h
set_option maxHeartbeats 4000000 in
set_option maxRecDepth 20000 in
theorem sgX4_size_4 {κ : Kx} {K : Kont} {M : Mem} (C : Cx κ RX4 cX4_size 3 (some .int) rmX4_size domC) (i0 : Int) (x1 : Int) (x2 : Int)
    (h :
    (((M 5 1 7) ≤ x2 →
      K (some x1) M) ∧
     (¬ ((M 5 1 7) ≤ x2) →
      spX4_has i0 x2 M (rI (fun r17 M17 =>
      ((r17 = 0 →
        inR (x2 + 1) ∧
        V κ 3 M17 4 [some (.inr (18, i0)), some (.inl x1), some (.inl (x2 + 1))] [] K) ∧
       (¬ (r17 = 0) →
        inR (x1 + 1) ∧
        inR (x2 + 1) ∧
        V κ 3 M17 4 [some (.inr (18, i0)), some (.inl (x1 + 1)), some (.inl (x2 + 1))] [] K))))))) : V κ 3 M 4 [some (.inr (18, i0)), some (.inl x1), some (.inl x2)] [] K := by
  refine v_iload_n C dX4_size_4 rfl ?_
  refine v_aload_n C dX4_size_5 rfl ?_
  refine v_get C dX4_size_6 flX4_18 rfl (by decide) (by decide) (w := .inr (5, 1)) rfl ?_
  refine v_get C dX4_size_9 flX4_34 rfl (by decide) (by decide) (w := .inl (M 5 1 7)) rfl ?_
  refine v_icmp C dX4_size_12 (tgt := 32) (by decide) (P := (M 5 1 7) ≤ x2) rfl (fun c12 => ?_) (fun c12 => ?_)
  · replace h := h.1 c12
    refine v_iload_n C dX4_size_32 rfl ?_
    exact v_iret C dX4_size_33 h
  · replace h := h.2 c12
    refine v_aload_n C dX4_size_15 rfl ?_
    refine v_iload_n C dX4_size_16 rfl ?_
    refine v_invV C ctX4_has dX4_size_17 ivX4_40 ⟨by decide, by decide, rfl, rfl⟩ ((i0, x2) : Int × Int) (As := [.inl x2]) rfl rfl rfl (by decide) rfl (st := []) rfl (Nat.le_of_ble_eq_true rfl) h (fun o M17 oM17 io17 h => ?_)
    obtain ⟨r17, rfl, h⟩ := rI_out h
    refine v_push ?_
    refine v_if C dX4_size_20 (tgt := 26) (by decide) (P := r17 = 0) rfl (fun c20 => ?_) (fun c20 => ?_)
    · replace h := h.1 c20
      refine v_iinc C dX4_size_26 (by decide) rfl h.1 (lv' := [some (.inr (18, i0)), some (.inl x1), some (.inl (x2 + 1))]) rfl ?_
      replace h := h.2
      refine v_goto C dX4_size_29 (tgt := 4) (by decide) ?_
      refine v_weak [some (.inr (18, i0)), some (.inl x1), some (.inl (x2 + 1))] ⟨rfl, rfl, rfl, trivial⟩ ?_
      exact h
    · replace h := h.2 c20
      refine v_iinc C dX4_size_23 (by decide) rfl h.1 (lv' := [some (.inr (18, i0)), some (.inl (x1 + 1)), some (.inl x2)]) rfl ?_
      replace h := h.2
      refine v_iinc C dX4_size_26 (by decide) rfl h.1 (lv' := [some (.inr (18, i0)), some (.inl (x1 + 1)), some (.inl (x2 + 1))]) rfl ?_
      replace h := h.2
      refine v_goto C dX4_size_29 (tgt := 4) (by decide) ?_
      refine v_weak [some (.inr (18, i0)), some (.inl (x1 + 1)), some (.inl (x2 + 1))] ⟨rfl, rfl, rfl, trivial⟩ ?_
      exact h
abbrev spX4_size (pl : Int) (M : Mem) (K : Kont) : Prop := (0 ≤ M 5 1 7 ∧ M 5 1 7 ≤ 7) ∧ K (some (szN (M 19 pl) (M 5 1 7).toNat)) M
theorem szN_rng (ver : Int → Int) (n : Nat) : 0 ≤ szN ver n ∧ szN ver n ≤ n := by
  have := sum_rng (f := fun p => if ver p = -4 then 0 else 1) (B := 1) (fun t => by split <;> omega) n
  unfold szN
  omega
theorem ctX4_size : CtX4_size spX4_size := by
  refine ct_of (by decide) dmC (fun _ => Nat.le_of_ble_eq_true rfl) ?_
  intro κ pl M K C oM h
  refine sgX4_size_0 C pl ?_
  dsimp only [spX4_size] at h
  obtain ⟨hP, hk⟩ := h
  have loop : ∀ (n : Nat) (t o : Int), 0 ≤ t → t + n = M 5 1 7 → o = szN (M 19 pl) t.toNat →
      V κ 3 M 4 [some (.inr (18, pl)), some (.inl o), some (.inl t)] [] K := by
    intro n
    induction n with
    | zero =>
      intro t o h0 hn ho
      refine sgX4_size_4 C pl o t ⟨fun c => ?_, fun c => absurd (by omega) c⟩
      have e : t = M 5 1 7 := by omega
      rw [ho, e]
      exact hk
    | succ n ih =>
      intro t o h0 hn ho
      have hr := szN_rng (M 19 pl) t.toNat
      have hs : szN (M 19 pl) (t + 1).toNat = szN (M 19 pl) t.toNat + (if M 19 pl t = -4 then 0 else 1) := sumN_s _ h0
      refine sgX4_size_4 C pl o t ⟨fun c => absurd c (by omega), fun c => ⟨⟨h0, by omega⟩, fun c2 => ⟨by omega, ?_⟩, fun c2 => ⟨by omega, by omega, ?_⟩⟩⟩
      · refine ih (t + 1) o (by omega) (by omega) (by rw [hs, c2]; omega)
      · refine ih (t + 1) (o + 1) (by omega) (by omega) ?_
        rw [hs]
        split
        · rename_i q
          rw [if_pos q] at c2
          exact absurd rfl c2
        · omega
  exact loop (M 5 1 7).toNat 0 0 (by omega) (by omega) rfl
/-! ===== GapTellings$Plan.endOf ===== -/
abbrev rmX4_endOf : Room := { frames := 0, cells := 0, slots := 0, locals := 0 }
abbrev argX4_endOf (a : Int × Int) : List PV := [.inr (18, a.1), .inl a.2]
abbrev CtX4_endOf (sp : Int → Int → Mem → Kont → Prop) : Prop := Ct yX4_endOf cX4_endOf 2 (some .int) rmX4_endOf domC argX4_endOf (fun a => sp a.1 a.2)
theorem dX4_endOf_0 : decode cX4_endOf 0 = .ok (.aload_n 0, 1) := by decide +kernel
theorem dX4_endOf_1 : decode cX4_endOf 1 = .ok (.getfield 15, 3) := by decide +kernel
theorem dX4_endOf_4 : decode cX4_endOf 4 = .ok (.iload_n 1, 1) := by decide +kernel
theorem dX4_endOf_5 : decode cX4_endOf 5 = .ok (.iaload, 1) := by decide +kernel
theorem dX4_endOf_6 : decode cX4_endOf 6 = .ok (.aload_n 0, 1) := by decide +kernel
theorem dX4_endOf_7 : decode cX4_endOf 7 = .ok (.getfield 18, 3) := by decide +kernel
theorem dX4_endOf_10 : decode cX4_endOf 10 = .ok (.getfield 44, 3) := by decide +kernel
theorem dX4_endOf_13 : decode cX4_endOf 13 = .ok (.iload_n 1, 1) := by decide +kernel
theorem dX4_endOf_14 : decode cX4_endOf 14 = .ok (.aaload, 1) := by decide +kernel
theorem dX4_endOf_15 : decode cX4_endOf 15 = .ok (.getfield 48, 3) := by decide +kernel
theorem dX4_endOf_18 : decode cX4_endOf 18 = .ok (.aload_n 0, 1) := by decide +kernel
theorem dX4_endOf_19 : decode cX4_endOf 19 = .ok (.getfield 9, 3) := by decide +kernel
theorem dX4_endOf_22 : decode cX4_endOf 22 = .ok (.iload_n 1, 1) := by decide +kernel
theorem dX4_endOf_23 : decode cX4_endOf 23 = .ok (.iaload, 1) := by decide +kernel
theorem dX4_endOf_24 : decode cX4_endOf 24 = .ok (.iaload, 1) := by decide +kernel
theorem dX4_endOf_25 : decode cX4_endOf 25 = .ok (.iadd, 1) := by decide +kernel
theorem dX4_endOf_26 : decode cX4_endOf 26 = .ok (.ireturn, 1) := by decide +kernel
theorem flX4_44 : FL RX4 44 1 8 := ⟨_, _, _, rfl, by decide, uwX1, Or.inr ⟨"GapTellings", (nw_mem (t_in1 (List.mem_of_getElem? (i := 141) (by decide +kernel))) (by decide +kernel))⟩⟩
theorem flX4_48 : FL RX4 48 3 5 := ⟨_, _, _, rfl, by decide, uwX3, Or.inr ⟨"GapTellings", (nw_mem (t_in1 (List.mem_of_getElem? (i := 85) (by decide +kernel))) (by decide +kernel))⟩⟩
set_option maxHeartbeats 4000000 in
set_option maxRecDepth 20000 in
theorem sgX4_endOf_0 {κ : Kx} {K : Kont} {M : Mem} (C : Cx κ RX4 cX4_endOf 2 (some .int) rmX4_endOf domC) (i0 : Int) (x1 : Int)
    (h :
    (0 ≤ x1 ∧ x1 < 7) ∧
    (0 ≤ x1 ∧ x1 < 7) ∧
    (0 ≤ x1 ∧ x1 < 7) ∧
    (0 ≤ (M 19 i0 x1) ∧ (M 19 i0 x1) < 3) ∧
    inR ((M 20 i0 x1) + (M 12 (7 * 1 + x1) (M 19 i0 x1))) ∧
    K (some ((M 20 i0 x1) + (M 12 (7 * 1 + x1) (M 19 i0 x1)))) M) : V κ 2 M 0 [some (.inr (18, i0)), some (.inl x1)] [] K := by
  refine v_aload_n C dX4_endOf_0 rfl ?_
  refine v_get C dX4_endOf_1 flX4_15 rfl (by decide) (by decide) (w := .inr (20, i0)) rfl ?_
  refine v_iload_n C dX4_endOf_4 rfl ?_
  refine v_iald C dX4_endOf_5 rfl h.1.1 h.1.2 ?_
  replace h := h.2
  refine v_aload_n C dX4_endOf_6 rfl ?_
  refine v_get C dX4_endOf_7 flX4_18 rfl (by decide) (by decide) (w := .inr (5, 1)) rfl ?_
  refine v_get C dX4_endOf_10 flX4_44 rfl (by decide) (by decide) (w := .inr (10, 1)) rfl ?_
  refine v_iload_n C dX4_endOf_13 rfl ?_
  refine v_aald C dX4_endOf_14 h.1.1 h.1.2 ?_
  replace h := h.2
  refine v_get C dX4_endOf_15 flX4_48 rfl (by decide) (by decide) (w := .inr (12, 7 * 1 + x1)) rfl ?_
  refine v_aload_n C dX4_endOf_18 rfl ?_
  refine v_get C dX4_endOf_19 flX4_9 rfl (by decide) (by decide) (w := .inr (19, i0)) rfl ?_
  refine v_iload_n C dX4_endOf_22 rfl ?_
  refine v_iald C dX4_endOf_23 rfl h.1.1 h.1.2 ?_
  replace h := h.2
  refine v_iald C dX4_endOf_24 rfl h.1.1 h.1.2 ?_
  replace h := h.2
  refine v_iadd C dX4_endOf_25 h.1 ?_
  replace h := h.2
  exact v_iret C dX4_endOf_26 h
abbrev spX4_endOf (pl p : Int) (M : Mem) (K : Kont) : Prop := ((0 ≤ p ∧ p < 7) ∧ (0 ≤ M 19 pl p ∧ M 19 pl p < 3) ∧ inR (M 20 pl p + M 12 (7 * 1 + p) (M 19 pl p))) ∧ K (some (M 20 pl p + M 12 (7 * 1 + p) (M 19 pl p))) M
theorem ctX4_endOf : CtX4_endOf spX4_endOf := by
  refine ct_of (by decide) dmC (fun _ => Nat.le_of_ble_eq_true rfl) ?_
  intro κ a M K C oM h
  obtain ⟨pl, p⟩ := a
  exact sgX4_endOf_0 C pl p ⟨h.1.1, h.1.1, h.1.1, h.1.2.1, h.1.2.2, h.2⟩
/-- what endOf asks, of a picture that is placed -/
theorem end_pre {M : Mem} {pl q : Int} (hf : WFf (cFilm M 1)) (hp : PlK (cFilm M 1) (M 19 pl) (M 20 pl)) (h0 : 0 ≤ q) (h1 : q < 7) (hv : M 19 pl q ≠ -4) : (0 ≤ M 19 pl q ∧ M 19 pl q < 3) ∧ (0 ≤ M 20 pl q ∧ M 20 pl q ≤ 100) ∧ (1 ≤ M 12 (7 * 1 + q) (M 19 pl q) ∧ M 12 (7 * 1 + q) (M 19 pl q) ≤ 30) ∧ inR (M 20 pl q + M 12 (7 * 1 + q) (M 19 pl q)) := by
  have a := hp.at h0 h1 hv
  have b := wf_pv hf h0 a.1 a.2.1.1 a.2.1.2
  simp only [cFilm] at a b
  refine ⟨⟨a.2.1.1, b.2.2.1⟩, ⟨a.2.2.1, by omega⟩, b.2.2.2.2.2.2.1, by omega⟩
/-! ===== GapTellings$Plan.whyNotBesideOthers ===== -/
abbrev rmX4_whyNotBesideOthers : Room := { frames := 1, cells := 0, slots := 0, locals := 21 }
abbrev argX4_whyNotBesideOthers (a : Int × Int × Int × Int) : List PV := [.inr (18, a.1), .inl a.2.1, .inl a.2.2.1, .inl a.2.2.2]
abbrev CtX4_whyNotBesideOthers (sp : Int → Int → Int → Int → Mem → Kont → Prop) : Prop := Ct yX4_whyNotBesideOthers cX4_whyNotBesideOthers 7 (some .int) rmX4_whyNotBesideOthers domC argX4_whyNotBesideOthers (fun a => sp a.1 a.2.1 a.2.2.1 a.2.2.2)
theorem dX4_whyNotBesideOthers_0 : decode cX4_whyNotBesideOthers 0 = .ok (.iload_n 3, 1) := by decide +kernel
theorem dX4_whyNotBesideOthers_1 : decode cX4_whyNotBesideOthers 1 = .ok (.aload_n 0, 1) := by decide +kernel
theorem dX4_whyNotBesideOthers_2 : decode cX4_whyNotBesideOthers 2 = .ok (.getfield 18, 3) := by decide +kernel
theorem dX4_whyNotBesideOthers_5 : decode cX4_whyNotBesideOthers 5 = .ok (.getfield 44, 3) := by decide +kernel
theorem dX4_whyNotBesideOthers_8 : decode cX4_whyNotBesideOthers 8 = .ok (.iload_n 1, 1) := by decide +kernel
theorem dX4_whyNotBesideOthers_9 : decode cX4_whyNotBesideOthers 9 = .ok (.aaload, 1) := by decide +kernel
theorem dX4_whyNotBesideOthers_10 : decode cX4_whyNotBesideOthers 10 = .ok (.getfield 48, 3) := by decide +kernel
theorem dX4_whyNotBesideOthers_13 : decode cX4_whyNotBesideOthers 13 = .ok (.iload_n 2, 1) := by decide +kernel
theorem dX4_whyNotBesideOthers_14 : decode cX4_whyNotBesideOthers 14 = .ok (.iaload, 1) := by decide +kernel
theorem dX4_whyNotBesideOthers_15 : decode cX4_whyNotBesideOthers 15 = .ok (.iadd, 1) := by decide +kernel
theorem dX4_whyNotBesideOthers_16 : decode cX4_whyNotBesideOthers 16 = .ok (.istore 4, 2) := by decide +kernel
theorem dX4_whyNotBesideOthers_18 : decode cX4_whyNotBesideOthers 18 = .ok (.iconst 0, 1) := by decide +kernel
theorem dX4_whyNotBesideOthers_19 : decode cX4_whyNotBesideOthers 19 = .ok (.istore 5, 2) := by decide +kernel
theorem dX4_whyNotBesideOthers_21 : decode cX4_whyNotBesideOthers 21 = .ok (.iload 5, 2) := by decide +kernel
theorem dX4_whyNotBesideOthers_23 : decode cX4_whyNotBesideOthers 23 = .ok (.aload_n 0, 1) := by decide +kernel
theorem dX4_whyNotBesideOthers_24 : decode cX4_whyNotBesideOthers 24 = .ok (.getfield 18, 3) := by decide +kernel
theorem dX4_whyNotBesideOthers_27 : decode cX4_whyNotBesideOthers 27 = .ok (.getfield 34, 3) := by decide +kernel
theorem dX4_whyNotBesideOthers_30 : decode cX4_whyNotBesideOthers 30 = .ok (.if_icmp .ge 64, 3) := by decide +kernel
theorem dX4_whyNotBesideOthers_33 : decode cX4_whyNotBesideOthers 33 = .ok (.iload 5, 2) := by decide +kernel
theorem dX4_whyNotBesideOthers_35 : decode cX4_whyNotBesideOthers 35 = .ok (.iload_n 1, 1) := by decide +kernel
theorem dX4_whyNotBesideOthers_36 : decode cX4_whyNotBesideOthers 36 = .ok (.if_icmp .eq 52, 3) := by decide +kernel
theorem dX4_whyNotBesideOthers_39 : decode cX4_whyNotBesideOthers 39 = .ok (.aload_n 0, 1) := by decide +kernel
theorem dX4_whyNotBesideOthers_40 : decode cX4_whyNotBesideOthers 40 = .ok (.iload 5, 2) := by decide +kernel
theorem dX4_whyNotBesideOthers_42 : decode cX4_whyNotBesideOthers 42 = .ok (.invokevirtual 40, 3) := by decide +kernel
theorem dX4_whyNotBesideOthers_45 : decode cX4_whyNotBesideOthers 45 = .ok (.ifCond .eq 43, 3) := by decide +kernel
theorem dX4_whyNotBesideOthers_48 : decode cX4_whyNotBesideOthers 48 = .ok (.aload_n 0, 1) := by decide +kernel
theorem dX4_whyNotBesideOthers_49 : decode cX4_whyNotBesideOthers 49 = .ok (.getfield 15, 3) := by decide +kernel
theorem dX4_whyNotBesideOthers_52 : decode cX4_whyNotBesideOthers 52 = .ok (.iload 5, 2) := by decide +kernel
theorem dX4_whyNotBesideOthers_54 : decode cX4_whyNotBesideOthers 54 = .ok (.iaload, 1) := by decide +kernel
theorem dX4_whyNotBesideOthers_55 : decode cX4_whyNotBesideOthers 55 = .ok (.iload 4, 2) := by decide +kernel
theorem dX4_whyNotBesideOthers_57 : decode cX4_whyNotBesideOthers 57 = .ok (.isub, 1) := by decide +kernel
theorem dX4_whyNotBesideOthers_58 : decode cX4_whyNotBesideOthers 58 = .ok (.aload_n 0, 1) := by decide +kernel
theorem dX4_whyNotBesideOthers_59 : decode cX4_whyNotBesideOthers 59 = .ok (.getfield 18, 3) := by decide +kernel
theorem dX4_whyNotBesideOthers_62 : decode cX4_whyNotBesideOthers 62 = .ok (.getfield 62, 3) := by decide +kernel
theorem dX4_whyNotBesideOthers_65 : decode cX4_whyNotBesideOthers 65 = .ok (.if_icmp .ge 23, 3) := by decide +kernel
theorem dX4_whyNotBesideOthers_68 : decode cX4_whyNotBesideOthers 68 = .ok (.iload_n 3, 1) := by decide +kernel
theorem dX4_whyNotBesideOthers_69 : decode cX4_whyNotBesideOthers 69 = .ok (.aload_n 0, 1) := by decide +kernel
theorem dX4_whyNotBesideOthers_70 : decode cX4_whyNotBesideOthers 70 = .ok (.iload 5, 2) := by decide +kernel
theorem dX4_whyNotBesideOthers_72 : decode cX4_whyNotBesideOthers 72 = .ok (.invokevirtual 65, 3) := by decide +kernel
theorem dX4_whyNotBesideOthers_75 : decode cX4_whyNotBesideOthers 75 = .ok (.isub, 1) := by decide +kernel
theorem dX4_whyNotBesideOthers_76 : decode cX4_whyNotBesideOthers 76 = .ok (.aload_n 0, 1) := by decide +kernel
theorem dX4_whyNotBesideOthers_77 : decode cX4_whyNotBesideOthers 77 = .ok (.getfield 18, 3) := by decide +kernel
theorem dX4_whyNotBesideOthers_80 : decode cX4_whyNotBesideOthers 80 = .ok (.getfield 62, 3) := by decide +kernel
theorem dX4_whyNotBesideOthers_83 : decode cX4_whyNotBesideOthers 83 = .ok (.if_icmp .ge 5, 3) := by decide +kernel
theorem dX4_whyNotBesideOthers_86 : decode cX4_whyNotBesideOthers 86 = .ok (.iconst 4, 1) := by decide +kernel
theorem dX4_whyNotBesideOthers_87 : decode cX4_whyNotBesideOthers 87 = .ok (.ireturn, 1) := by decide +kernel
theorem dX4_whyNotBesideOthers_88 : decode cX4_whyNotBesideOthers 88 = .ok (.iinc 5 1, 3) := by decide +kernel
theorem dX4_whyNotBesideOthers_91 : decode cX4_whyNotBesideOthers 91 = .ok (.goto (-70), 3) := by decide +kernel
theorem dX4_whyNotBesideOthers_94 : decode cX4_whyNotBesideOthers 94 = .ok (.aload_n 0, 1) := by decide +kernel
theorem dX4_whyNotBesideOthers_95 : decode cX4_whyNotBesideOthers 95 = .ok (.getfield 18, 3) := by decide +kernel
theorem dX4_whyNotBesideOthers_98 : decode cX4_whyNotBesideOthers 98 = .ok (.getfield 44, 3) := by decide +kernel
theorem dX4_whyNotBesideOthers_101 : decode cX4_whyNotBesideOthers 101 = .ok (.iload_n 1, 1) := by decide +kernel
theorem dX4_whyNotBesideOthers_102 : decode cX4_whyNotBesideOthers 102 = .ok (.aaload, 1) := by decide +kernel
theorem dX4_whyNotBesideOthers_103 : decode cX4_whyNotBesideOthers 103 = .ok (.getfield 69, 3) := by decide +kernel
theorem dX4_whyNotBesideOthers_106 : decode cX4_whyNotBesideOthers 106 = .ok (.istore 5, 2) := by decide +kernel
theorem dX4_whyNotBesideOthers_108 : decode cX4_whyNotBesideOthers 108 = .ok (.iload 5, 2) := by decide +kernel
theorem dX4_whyNotBesideOthers_110 : decode cX4_whyNotBesideOthers 110 = .ok (.bipush (-4), 2) := by decide +kernel
theorem dX4_whyNotBesideOthers_112 : decode cX4_whyNotBesideOthers 112 = .ok (.if_icmp .eq 24, 3) := by decide +kernel
theorem dX4_whyNotBesideOthers_115 : decode cX4_whyNotBesideOthers 115 = .ok (.aload_n 0, 1) := by decide +kernel
theorem dX4_whyNotBesideOthers_116 : decode cX4_whyNotBesideOthers 116 = .ok (.iload 5, 2) := by decide +kernel
theorem dX4_whyNotBesideOthers_118 : decode cX4_whyNotBesideOthers 118 = .ok (.invokevirtual 40, 3) := by decide +kernel
theorem dX4_whyNotBesideOthers_121 : decode cX4_whyNotBesideOthers 121 = .ok (.ifCond .eq 13, 3) := by decide +kernel
theorem dX4_whyNotBesideOthers_124 : decode cX4_whyNotBesideOthers 124 = .ok (.aload_n 0, 1) := by decide +kernel
theorem dX4_whyNotBesideOthers_125 : decode cX4_whyNotBesideOthers 125 = .ok (.iload 5, 2) := by decide +kernel
theorem dX4_whyNotBesideOthers_127 : decode cX4_whyNotBesideOthers 127 = .ok (.invokevirtual 65, 3) := by decide +kernel
theorem dX4_whyNotBesideOthers_130 : decode cX4_whyNotBesideOthers 130 = .ok (.iload_n 3, 1) := by decide +kernel
theorem dX4_whyNotBesideOthers_131 : decode cX4_whyNotBesideOthers 131 = .ok (.if_icmp .le 5, 3) := by decide +kernel
theorem dX4_whyNotBesideOthers_134 : decode cX4_whyNotBesideOthers 134 = .ok (.iconst 5, 1) := by decide +kernel
theorem dX4_whyNotBesideOthers_135 : decode cX4_whyNotBesideOthers 135 = .ok (.ireturn, 1) := by decide +kernel
theorem dX4_whyNotBesideOthers_136 : decode cX4_whyNotBesideOthers 136 = .ok (.iconst 0, 1) := by decide +kernel
theorem dX4_whyNotBesideOthers_137 : decode cX4_whyNotBesideOthers 137 = .ok (.istore 6, 2) := by decide +kernel
theorem dX4_whyNotBesideOthers_139 : decode cX4_whyNotBesideOthers 139 = .ok (.iload 6, 2) := by decide +kernel
theorem dX4_whyNotBesideOthers_141 : decode cX4_whyNotBesideOthers 141 = .ok (.aload_n 0, 1) := by decide +kernel
theorem dX4_whyNotBesideOthers_142 : decode cX4_whyNotBesideOthers 142 = .ok (.getfield 18, 3) := by decide +kernel
theorem dX4_whyNotBesideOthers_145 : decode cX4_whyNotBesideOthers 145 = .ok (.getfield 34, 3) := by decide +kernel
theorem dX4_whyNotBesideOthers_148 : decode cX4_whyNotBesideOthers 148 = .ok (.if_icmp .ge 50, 3) := by decide +kernel
theorem dX4_whyNotBesideOthers_151 : decode cX4_whyNotBesideOthers 151 = .ok (.aload_n 0, 1) := by decide +kernel
theorem dX4_whyNotBesideOthers_152 : decode cX4_whyNotBesideOthers 152 = .ok (.getfield 18, 3) := by decide +kernel
theorem dX4_whyNotBesideOthers_155 : decode cX4_whyNotBesideOthers 155 = .ok (.getfield 44, 3) := by decide +kernel
theorem dX4_whyNotBesideOthers_158 : decode cX4_whyNotBesideOthers 158 = .ok (.iload 6, 2) := by decide +kernel
theorem dX4_whyNotBesideOthers_160 : decode cX4_whyNotBesideOthers 160 = .ok (.aaload, 1) := by decide +kernel
theorem dX4_whyNotBesideOthers_161 : decode cX4_whyNotBesideOthers 161 = .ok (.getfield 69, 3) := by decide +kernel
theorem dX4_whyNotBesideOthers_164 : decode cX4_whyNotBesideOthers 164 = .ok (.iload_n 1, 1) := by decide +kernel
theorem dX4_whyNotBesideOthers_165 : decode cX4_whyNotBesideOthers 165 = .ok (.if_icmp .ne 27, 3) := by decide +kernel
theorem dX4_whyNotBesideOthers_168 : decode cX4_whyNotBesideOthers 168 = .ok (.aload_n 0, 1) := by decide +kernel
theorem dX4_whyNotBesideOthers_169 : decode cX4_whyNotBesideOthers 169 = .ok (.iload 6, 2) := by decide +kernel
theorem dX4_whyNotBesideOthers_171 : decode cX4_whyNotBesideOthers 171 = .ok (.invokevirtual 40, 3) := by decide +kernel
theorem dX4_whyNotBesideOthers_174 : decode cX4_whyNotBesideOthers 174 = .ok (.ifCond .eq 18, 3) := by decide +kernel
theorem dX4_whyNotBesideOthers_177 : decode cX4_whyNotBesideOthers 177 = .ok (.aload_n 0, 1) := by decide +kernel
theorem dX4_whyNotBesideOthers_178 : decode cX4_whyNotBesideOthers 178 = .ok (.getfield 15, 3) := by decide +kernel
theorem dX4_whyNotBesideOthers_181 : decode cX4_whyNotBesideOthers 181 = .ok (.iload 6, 2) := by decide +kernel
theorem dX4_whyNotBesideOthers_183 : decode cX4_whyNotBesideOthers 183 = .ok (.iaload, 1) := by decide +kernel
theorem dX4_whyNotBesideOthers_184 : decode cX4_whyNotBesideOthers 184 = .ok (.iload 4, 2) := by decide +kernel
theorem dX4_whyNotBesideOthers_186 : decode cX4_whyNotBesideOthers 186 = .ok (.if_icmp .ge 6, 3) := by decide +kernel
theorem dX4_whyNotBesideOthers_189 : decode cX4_whyNotBesideOthers 189 = .ok (.bipush 6, 2) := by decide +kernel
theorem dX4_whyNotBesideOthers_191 : decode cX4_whyNotBesideOthers 191 = .ok (.ireturn, 1) := by decide +kernel
theorem dX4_whyNotBesideOthers_192 : decode cX4_whyNotBesideOthers 192 = .ok (.iinc 6 1, 3) := by decide +kernel
theorem dX4_whyNotBesideOthers_195 : decode cX4_whyNotBesideOthers 195 = .ok (.goto (-56), 3) := by decide +kernel
theorem dX4_whyNotBesideOthers_198 : decode cX4_whyNotBesideOthers 198 = .ok (.iconst 0, 1) := by decide +kernel
theorem dX4_whyNotBesideOthers_199 : decode cX4_whyNotBesideOthers 199 = .ok (.ireturn, 1) := by decide +kernel
theorem flX4_69 : FL RX4 69 3 3 := ⟨_, _, _, rfl, by decide, uwX3, Or.inr ⟨"GapTellings", (nw_mem (t_in1 (List.mem_of_getElem? (i := 75) (by decide +kernel))) (by decide +kernel))⟩⟩
theorem ivX4_65 : IV RX4 65 yX4_endOf cX4_endOf 2 (some .int) 1 := ⟨(tb_mem (t_in3 (List.mem_of_getElem? (i := 73) (by decide +kernel))) (by decide +kernel)), (tb_mem (t_in3 (List.mem_of_getElem? (i := 74) (by decide +kernel))) (by decide +kernel)), (tb_mem (t_in3 (List.mem_of_getElem? (i := 75) (by decide +kernel))) (by decide +kernel)), (tb_mem (t_in1 (List.mem_of_getElem? (i := 6) (by decide +kernel))) (by decide +kernel)), (tb_mem (t_in3 (List.mem_of_getElem? (i := 76) (by decide +kernel))) (by decide +kernel)), ⟨by decide +kernel, by decide +kernel, by decide +kernel⟩⟩
theorem flX4_62 : FL RX4 62 1 1 := ⟨_, _, _, rfl, by decide, uwX1, Or.inr ⟨"GapTellings", (nw_mem (t_in1 (List.mem_of_getElem? (i := 114) (by decide +kernel))) (by decide +kernel))⟩⟩
set_option maxHeartbeats 4000000 in
set_option maxRecDepth 20000 in
theorem sgX4_whyNotBesideOthers_0 {κ : Kx} {K : Kont} {M : Mem} (C : Cx κ RX4 cX4_whyNotBesideOthers 7 (some .int) rmX4_whyNotBesideOthers domC) (i0 : Int) (x1 : Int) (x2 : Int) (x3 : Int)
    (h :
    (0 ≤ x1 ∧ x1 < 7) ∧
    (0 ≤ x2 ∧ x2 < 3) ∧
    inR (x3 + (M 12 (7 * 1 + x1) x2)) ∧
    ∀ y4_16 : Int, y4_16 = x3 + (M 12 (7 * 1 + x1) x2) →
    V κ 7 M 21 [some (.inr (18, i0)), some (.inl x1), none, some (.inl x3), some (.inl y4_16), some (.inl 0), none] [] K) : V κ 7 M 0 [some (.inr (18, i0)), some (.inl x1), some (.inl x2), some (.inl x3), none, none, none] [] K := by
  refine v_iload_n C dX4_whyNotBesideOthers_0 rfl ?_
  refine v_aload_n C dX4_whyNotBesideOthers_1 rfl ?_
  refine v_get C dX4_whyNotBesideOthers_2 flX4_18 rfl (by decide) (by decide) (w := .inr (5, 1)) rfl ?_
  refine v_get C dX4_whyNotBesideOthers_5 flX4_44 rfl (by decide) (by decide) (w := .inr (10, 1)) rfl ?_
  refine v_iload_n C dX4_whyNotBesideOthers_8 rfl ?_
  refine v_aald C dX4_whyNotBesideOthers_9 h.1.1 h.1.2 ?_
  replace h := h.2
  refine v_get C dX4_whyNotBesideOthers_10 flX4_48 rfl (by decide) (by decide) (w := .inr (12, 7 * 1 + x1)) rfl ?_
  refine v_iload_n C dX4_whyNotBesideOthers_13 rfl ?_
  refine v_iald C dX4_whyNotBesideOthers_14 rfl h.1.1 h.1.2 ?_
  replace h := h.2
  refine v_iadd C dX4_whyNotBesideOthers_15 h.1 ?_
  replace h := h.2
  refine v_nm (fun y4_16 ey4_16 => ?_)
  replace h := h y4_16 ey4_16
  refine v_istore C dX4_whyNotBesideOthers_16 (by decide) (Nat.le_of_ble_eq_true rfl) (lv' := [some (.inr (18, i0)), some (.inl x1), some (.inl x2), some (.inl x3), some (.inl y4_16), none, none]) rfl ?_
  refine v_iconst C dX4_whyNotBesideOthers_18 (by decide) ?_
  refine v_istore C dX4_whyNotBesideOthers_19 (by decide) (Nat.le_of_ble_eq_true rfl) (lv' := [some (.inr (18, i0)), some (.inl x1), some (.inl x2), some (.inl x3), some (.inl y4_16), some (.inl 0), none]) rfl ?_
  refine v_weak [some (.inr (18, i0)), some (.inl x1), none, some (.inl x3), some (.inl y4_16), some (.inl 0), none] ⟨rfl, rfl, rfl, rfl, rfl, trivial⟩ ?_
  exact h
set_option maxHeartbeats 4000000 in
set_option maxRecDepth 20000 in
theorem sgX4_whyNotBesideOthers_21 {κ : Kx} {K : Kont} {M : Mem} (C : Cx κ RX4 cX4_whyNotBesideOthers 7 (some .int) rmX4_whyNotBesideOthers domC) (i0 : Int) (x1 : Int) (x3 : Int) (x4 : Int) (x5 : Int)
    (h :
    (((M 5 1 7) ≤ x5 →
      (0 ≤ x1 ∧ x1 < 7) ∧
      ∀ y5_106 : Int, y5_106 = M 11 (7 * 1 + x1) 3 →
      ((y5_106 = (-4) →
        V κ 7 M 139 [some (.inr (18, i0)), some (.inl x1), none, none, some (.inl x4), none, some (.inl 0)] [] K) ∧
       (¬ (y5_106 = (-4)) →
        spX4_has i0 y5_106 M (rI (fun r118 M118 =>
        ((r118 = 0 →
          K (some 5) M118) ∧
         (¬ (r118 = 0) →
          spX4_endOf i0 y5_106 M118 (rI (fun r127 M127 =>
          ((r127 ≤ x3 →
            V κ 7 M127 139 [some (.inr (18, i0)), some (.inl x1), none, none, some (.inl x4), none, some (.inl 0)] [] K) ∧
           (¬ (r127 ≤ x3) →
            K (some 5) M127))))))))))) ∧
     (¬ ((M 5 1 7) ≤ x5) →
      ((x5 = x1 →
        inR (x5 + 1) ∧
        V κ 7 M 21 [some (.inr (18, i0)), some (.inl x1), none, some (.inl x3), some (.inl x4), some (.inl (x5 + 1)), none] [] K) ∧
       (¬ (x5 = x1) →
        spX4_has i0 x5 M (rI (fun r42 M42 =>
        ((r42 = 0 →
          inR (x5 + 1) ∧
          V κ 7 M42 21 [some (.inr (18, i0)), some (.inl x1), none, some (.inl x3), some (.inl x4), some (.inl (x5 + 1)), none] [] K) ∧
         (¬ (r42 = 0) →
          (0 ≤ x5 ∧ x5 < 7) ∧
          inR ((M42 20 i0 x5) - x4) ∧
          (((M42 5 1 1) ≤ ((M42 20 i0 x5) - x4) →
            inR (x5 + 1) ∧
            V κ 7 M42 21 [some (.inr (18, i0)), some (.inl x1), none, some (.inl x3), some (.inl x4), some (.inl (x5 + 1)), none] [] K) ∧
           (¬ ((M42 5 1 1) ≤ ((M42 20 i0 x5) - x4)) →
            spX4_endOf i0 x5 M42 (rI (fun r72 M72 =>
            inR (x3 - r72) ∧
            (((M72 5 1 1) ≤ (x3 - r72) →
              inR (x5 + 1) ∧
              V κ 7 M72 21 [some (.inr (18, i0)), some (.inl x1), none, some (.inl x3), some (.inl x4), some (.inl (x5 + 1)), none] [] K) ∧
             (¬ ((M72 5 1 1) ≤ (x3 - r72)) →
              K (some 4) M72))))))))))))))) : V κ 7 M 21 [some (.inr (18, i0)), some (.inl x1), none, some (.inl x3), some (.inl x4), some (.inl x5), none] [] K := by
  refine v_iload C dX4_whyNotBesideOthers_21 rfl ?_
  refine v_aload_n C dX4_whyNotBesideOthers_23 rfl ?_
  refine v_get C dX4_whyNotBesideOthers_24 flX4_18 rfl (by decide) (by decide) (w := .inr (5, 1)) rfl ?_
  refine v_get C dX4_whyNotBesideOthers_27 flX4_34 rfl (by decide) (by decide) (w := .inl (M 5 1 7)) rfl ?_
  refine v_icmp C dX4_whyNotBesideOthers_30 (tgt := 94) (by decide) (P := (M 5 1 7) ≤ x5) rfl (fun c30 => ?_) (fun c30 => ?_)
  · replace h := h.1 c30
    refine v_aload_n C dX4_whyNotBesideOthers_94 rfl ?_
    refine v_get C dX4_whyNotBesideOthers_95 flX4_18 rfl (by decide) (by decide) (w := .inr (5, 1)) rfl ?_
    refine v_get C dX4_whyNotBesideOthers_98 flX4_44 rfl (by decide) (by decide) (w := .inr (10, 1)) rfl ?_
    refine v_iload_n C dX4_whyNotBesideOthers_101 rfl ?_
    refine v_aald C dX4_whyNotBesideOthers_102 h.1.1 h.1.2 ?_
    replace h := h.2
    refine v_get C dX4_whyNotBesideOthers_103 flX4_69 rfl (by decide) (by decide) (w := .inl (M 11 (7 * 1 + x1) 3)) rfl ?_
    refine v_nm (fun y5_106 ey5_106 => ?_)
    replace h := h y5_106 ey5_106
    refine v_istore C dX4_whyNotBesideOthers_106 (by decide) (Nat.le_of_ble_eq_true rfl) (lv' := [some (.inr (18, i0)), some (.inl x1), none, some (.inl x3), some (.inl x4), some (.inl y5_106), none]) rfl ?_
    refine v_iload C dX4_whyNotBesideOthers_108 rfl ?_
    refine v_bipush C dX4_whyNotBesideOthers_110 (by decide) (by decide) ?_
    refine v_icmp C dX4_whyNotBesideOthers_112 (tgt := 136) (by decide) (P := y5_106 = (-4)) rfl (fun c112 => ?_) (fun c112 => ?_)
    · replace h := h.1 c112
      refine v_iconst C dX4_whyNotBesideOthers_136 (by decide) ?_
      refine v_istore C dX4_whyNotBesideOthers_137 (by decide) (Nat.le_of_ble_eq_true rfl) (lv' := [some (.inr (18, i0)), some (.inl x1), none, some (.inl x3), some (.inl x4), some (.inl y5_106), some (.inl 0)]) rfl ?_
      refine v_weak [some (.inr (18, i0)), some (.inl x1), none, none, some (.inl x4), none, some (.inl 0)] ⟨rfl, rfl, rfl, rfl, trivial⟩ ?_
      exact h
    · replace h := h.2 c112
      refine v_aload_n C dX4_whyNotBesideOthers_115 rfl ?_
      refine v_iload C dX4_whyNotBesideOthers_116 rfl ?_
      refine v_invV C ctX4_has dX4_whyNotBesideOthers_118 ivX4_40 ⟨by decide, by decide, rfl, rfl⟩ ((i0, y5_106) : Int × Int) (As := [.inl y5_106]) rfl rfl rfl (by decide) rfl (st := []) rfl (Nat.le_of_ble_eq_true rfl) h (fun o M118 oM118 io118 h => ?_)
      obtain ⟨r118, rfl, h⟩ := rI_out h
      refine v_push ?_
      refine v_if C dX4_whyNotBesideOthers_121 (tgt := 134) (by decide) (P := r118 = 0) rfl (fun c121 => ?_) (fun c121 => ?_)
      · replace h := h.1 c121
        refine v_iconst C dX4_whyNotBesideOthers_134 (by decide) ?_
        exact v_iret C dX4_whyNotBesideOthers_135 h
      · replace h := h.2 c121
        refine v_aload_n C dX4_whyNotBesideOthers_124 rfl ?_
        refine v_iload C dX4_whyNotBesideOthers_125 rfl ?_
        refine v_invV C ctX4_endOf dX4_whyNotBesideOthers_127 ivX4_65 ⟨by decide, by decide, rfl, rfl⟩ ((i0, y5_106) : Int × Int) (As := [.inl y5_106]) rfl rfl rfl (by decide) rfl (st := []) rfl (Nat.le_of_ble_eq_true rfl) h (fun o M127 oM127 io127 h => ?_)
        obtain ⟨r127, rfl, h⟩ := rI_out h
        refine v_push ?_
        refine v_iload_n C dX4_whyNotBesideOthers_130 rfl ?_
        refine v_icmp C dX4_whyNotBesideOthers_131 (tgt := 136) (by decide) (P := r127 ≤ x3) rfl (fun c131 => ?_) (fun c131 => ?_)
        · replace h := h.1 c131
          refine v_iconst C dX4_whyNotBesideOthers_136 (by decide) ?_
          refine v_istore C dX4_whyNotBesideOthers_137 (by decide) (Nat.le_of_ble_eq_true rfl) (lv' := [some (.inr (18, i0)), some (.inl x1), none, some (.inl x3), some (.inl x4), some (.inl y5_106), some (.inl 0)]) rfl ?_
          refine v_weak [some (.inr (18, i0)), some (.inl x1), none, none, some (.inl x4), none, some (.inl 0)] ⟨rfl, rfl, rfl, rfl, trivial⟩ ?_
          exact h
        · replace h := h.2 c131
          refine v_iconst C dX4_whyNotBesideOthers_134 (by decide) ?_
          exact v_iret C dX4_whyNotBesideOthers_135 h
  · replace h := h.2 c30
    refine v_iload C dX4_whyNotBesideOthers_33 rfl ?_
    refine v_iload_n C dX4_whyNotBesideOthers_35 rfl ?_
    refine v_icmp C dX4_whyNotBesideOthers_36 (tgt := 88) (by decide) (P := x5 = x1) rfl (fun c36 => ?_) (fun c36 => ?_)
    · replace h := h.1 c36
      refine v_iinc C dX4_whyNotBesideOthers_88 (by decide) rfl h.1 (lv' := [some (.inr (18, i0)), some (.inl x1), none, some (.inl x3), some (.inl x4), some (.inl (x5 + 1)), none]) rfl ?_
      replace h := h.2
      refine v_goto C dX4_whyNotBesideOthers_91 (tgt := 21) (by decide) ?_
      refine v_weak [some (.inr (18, i0)), some (.inl x1), none, some (.inl x3), some (.inl x4), some (.inl (x5 + 1)), none] ⟨rfl, rfl, rfl, rfl, rfl, trivial⟩ ?_
      exact h
    · replace h := h.2 c36
      refine v_aload_n C dX4_whyNotBesideOthers_39 rfl ?_
      refine v_iload C dX4_whyNotBesideOthers_40 rfl ?_
      refine v_invV C ctX4_has dX4_whyNotBesideOthers_42 ivX4_40 ⟨by decide, by decide, rfl, rfl⟩ ((i0, x5) : Int × Int) (As := [.inl x5]) rfl rfl rfl (by decide) rfl (st := []) rfl (Nat.le_of_ble_eq_true rfl) h (fun o M42 oM42 io42 h => ?_)
      obtain ⟨r42, rfl, h⟩ := rI_out h
      refine v_push ?_
      refine v_if C dX4_whyNotBesideOthers_45 (tgt := 88) (by decide) (P := r42 = 0) rfl (fun c45 => ?_) (fun c45 => ?_)
      · replace h := h.1 c45
        refine v_iinc C dX4_whyNotBesideOthers_88 (by decide) rfl h.1 (lv' := [some (.inr (18, i0)), some (.inl x1), none, some (.inl x3), some (.inl x4), some (.inl (x5 + 1)), none]) rfl ?_
        replace h := h.2
        refine v_goto C dX4_whyNotBesideOthers_91 (tgt := 21) (by decide) ?_
        refine v_weak [some (.inr (18, i0)), some (.inl x1), none, some (.inl x3), some (.inl x4), some (.inl (x5 + 1)), none] ⟨rfl, rfl, rfl, rfl, rfl, trivial⟩ ?_
        exact h
      · replace h := h.2 c45
        refine v_aload_n C dX4_whyNotBesideOthers_48 rfl ?_
        refine v_get C dX4_whyNotBesideOthers_49 flX4_15 rfl (by decide) (by decide) (w := .inr (20, i0)) rfl ?_
        refine v_iload C dX4_whyNotBesideOthers_52 rfl ?_
        refine v_iald C dX4_whyNotBesideOthers_54 rfl h.1.1 h.1.2 ?_
        replace h := h.2
        refine v_iload C dX4_whyNotBesideOthers_55 rfl ?_
        refine v_isub C dX4_whyNotBesideOthers_57 h.1 ?_
        replace h := h.2
        refine v_aload_n C dX4_whyNotBesideOthers_58 rfl ?_
        refine v_get C dX4_whyNotBesideOthers_59 flX4_18 rfl (by decide) (by decide) (w := .inr (5, 1)) rfl ?_
        refine v_get C dX4_whyNotBesideOthers_62 flX4_62 rfl (by decide) (by decide) (w := .inl (M42 5 1 1)) rfl ?_
        refine v_icmp C dX4_whyNotBesideOthers_65 (tgt := 88) (by decide) (P := (M42 5 1 1) ≤ ((M42 20 i0 x5) - x4)) rfl (fun c65 => ?_) (fun c65 => ?_)
        · replace h := h.1 c65
          refine v_iinc C dX4_whyNotBesideOthers_88 (by decide) rfl h.1 (lv' := [some (.inr (18, i0)), some (.inl x1), none, some (.inl x3), some (.inl x4), some (.inl (x5 + 1)), none]) rfl ?_
          replace h := h.2
          refine v_goto C dX4_whyNotBesideOthers_91 (tgt := 21) (by decide) ?_
          refine v_weak [some (.inr (18, i0)), some (.inl x1), none, some (.inl x3), some (.inl x4), some (.inl (x5 + 1)), none] ⟨rfl, rfl, rfl, rfl, rfl, trivial⟩ ?_
          exact h
        · replace h := h.2 c65
          refine v_iload_n C dX4_whyNotBesideOthers_68 rfl ?_
          refine v_aload_n C dX4_whyNotBesideOthers_69 rfl ?_
          refine v_iload C dX4_whyNotBesideOthers_70 rfl ?_
          refine v_invV C ctX4_endOf dX4_whyNotBesideOthers_72 ivX4_65 ⟨by decide, by decide, rfl, rfl⟩ ((i0, x5) : Int × Int) (As := [.inl x5]) rfl rfl rfl (by decide) rfl (st := [.inl x3]) rfl (Nat.le_of_ble_eq_true rfl) h (fun o M72 oM72 io72 h => ?_)
          obtain ⟨r72, rfl, h⟩ := rI_out h
          refine v_push ?_
          refine v_isub C dX4_whyNotBesideOthers_75 h.1 ?_
          replace h := h.2
          refine v_aload_n C dX4_whyNotBesideOthers_76 rfl ?_
          refine v_get C dX4_whyNotBesideOthers_77 flX4_18 rfl (by decide) (by decide) (w := .inr (5, 1)) rfl ?_
          refine v_get C dX4_whyNotBesideOthers_80 flX4_62 rfl (by decide) (by decide) (w := .inl (M72 5 1 1)) rfl ?_
          refine v_icmp C dX4_whyNotBesideOthers_83 (tgt := 88) (by decide) (P := (M72 5 1 1) ≤ (x3 - r72)) rfl (fun c83 => ?_) (fun c83 => ?_)
          · replace h := h.1 c83
            refine v_iinc C dX4_whyNotBesideOthers_88 (by decide) rfl h.1 (lv' := [some (.inr (18, i0)), some (.inl x1), none, some (.inl x3), some (.inl x4), some (.inl (x5 + 1)), none]) rfl ?_
            replace h := h.2
            refine v_goto C dX4_whyNotBesideOthers_91 (tgt := 21) (by decide) ?_
            refine v_weak [some (.inr (18, i0)), some (.inl x1), none, some (.inl x3), some (.inl x4), some (.inl (x5 + 1)), none] ⟨rfl, rfl, rfl, rfl, rfl, trivial⟩ ?_
            exact h
          · replace h := h.2 c83
            refine v_iconst C dX4_whyNotBesideOthers_86 (by decide) ?_
            exact v_iret C dX4_whyNotBesideOthers_87 h
set_option maxHeartbeats 4000000 in
set_option maxRecDepth 20000 in
theorem sgX4_whyNotBesideOthers_139 {κ : Kx} {K : Kont} {M : Mem} (C : Cx κ RX4 cX4_whyNotBesideOthers 7 (some .int) rmX4_whyNotBesideOthers domC) (i0 : Int) (x1 : Int) (x4 : Int) (x6 : Int)
    (h :
    (((M 5 1 7) ≤ x6 →
      K (some 0) M) ∧
     (¬ ((M 5 1 7) ≤ x6) →
      (0 ≤ x6 ∧ x6 < 7) ∧
      (((M 11 (7 * 1 + x6) 3) ≠ x1 →
        inR (x6 + 1) ∧
        V κ 7 M 139 [some (.inr (18, i0)), some (.inl x1), none, none, some (.inl x4), none, some (.inl (x6 + 1))] [] K) ∧
       (¬ ((M 11 (7 * 1 + x6) 3) ≠ x1) →
        spX4_has i0 x6 M (rI (fun r171 M171 =>
        ((r171 = 0 →
          inR (x6 + 1) ∧
          V κ 7 M171 139 [some (.inr (18, i0)), some (.inl x1), none, none, some (.inl x4), none, some (.inl (x6 + 1))] [] K) ∧
         (¬ (r171 = 0) →
          (0 ≤ x6 ∧ x6 < 7) ∧
          ((x4 ≤ (M171 20 i0 x6) →
            inR (x6 + 1) ∧
            V κ 7 M171 139 [some (.inr (18, i0)), some (.inl x1), none, none, some (.inl x4), none, some (.inl (x6 + 1))] [] K) ∧
           (¬ (x4 ≤ (M171 20 i0 x6)) →
            K (some 6) M171))))))))))) : V κ 7 M 139 [some (.inr (18, i0)), some (.inl x1), none, none, some (.inl x4), none, some (.inl x6)] [] K := by
  refine v_iload C dX4_whyNotBesideOthers_139 rfl ?_
  refine v_aload_n C dX4_whyNotBesideOthers_141 rfl ?_
  refine v_get C dX4_whyNotBesideOthers_142 flX4_18 rfl (by decide) (by decide) (w := .inr (5, 1)) rfl ?_
  refine v_get C dX4_whyNotBesideOthers_145 flX4_34 rfl (by decide) (by decide) (w := .inl (M 5 1 7)) rfl ?_
  refine v_icmp C dX4_whyNotBesideOthers_148 (tgt := 198) (by decide) (P := (M 5 1 7) ≤ x6) rfl (fun c148 => ?_) (fun c148 => ?_)
  · replace h := h.1 c148
    refine v_iconst C dX4_whyNotBesideOthers_198 (by decide) ?_
    exact v_iret C dX4_whyNotBesideOthers_199 h
  · replace h := h.2 c148
    refine v_aload_n C dX4_whyNotBesideOthers_151 rfl ?_
    refine v_get C dX4_whyNotBesideOthers_152 flX4_18 rfl (by decide) (by decide) (w := .inr (5, 1)) rfl ?_
    refine v_get C dX4_whyNotBesideOthers_155 flX4_44 rfl (by decide) (by decide) (w := .inr (10, 1)) rfl ?_
    refine v_iload C dX4_whyNotBesideOthers_158 rfl ?_
    refine v_aald C dX4_whyNotBesideOthers_160 h.1.1 h.1.2 ?_
    replace h := h.2
    refine v_get C dX4_whyNotBesideOthers_161 flX4_69 rfl (by decide) (by decide) (w := .inl (M 11 (7 * 1 + x6) 3)) rfl ?_
    refine v_iload_n C dX4_whyNotBesideOthers_164 rfl ?_
    refine v_icmp C dX4_whyNotBesideOthers_165 (tgt := 192) (by decide) (P := (M 11 (7 * 1 + x6) 3) ≠ x1) rfl (fun c165 => ?_) (fun c165 => ?_)
    · replace h := h.1 c165
      refine v_iinc C dX4_whyNotBesideOthers_192 (by decide) rfl h.1 (lv' := [some (.inr (18, i0)), some (.inl x1), none, none, some (.inl x4), none, some (.inl (x6 + 1))]) rfl ?_
      replace h := h.2
      refine v_goto C dX4_whyNotBesideOthers_195 (tgt := 139) (by decide) ?_
      refine v_weak [some (.inr (18, i0)), some (.inl x1), none, none, some (.inl x4), none, some (.inl (x6 + 1))] ⟨rfl, rfl, rfl, rfl, trivial⟩ ?_
      exact h
    · replace h := h.2 c165
      refine v_aload_n C dX4_whyNotBesideOthers_168 rfl ?_
      refine v_iload C dX4_whyNotBesideOthers_169 rfl ?_
      refine v_invV C ctX4_has dX4_whyNotBesideOthers_171 ivX4_40 ⟨by decide, by decide, rfl, rfl⟩ ((i0, x6) : Int × Int) (As := [.inl x6]) rfl rfl rfl (by decide) rfl (st := []) rfl (Nat.le_of_ble_eq_true rfl) h (fun o M171 oM171 io171 h => ?_)
      obtain ⟨r171, rfl, h⟩ := rI_out h
      refine v_push ?_
      refine v_if C dX4_whyNotBesideOthers_174 (tgt := 192) (by decide) (P := r171 = 0) rfl (fun c174 => ?_) (fun c174 => ?_)
      · replace h := h.1 c174
        refine v_iinc C dX4_whyNotBesideOthers_192 (by decide) rfl h.1 (lv' := [some (.inr (18, i0)), some (.inl x1), none, none, some (.inl x4), none, some (.inl (x6 + 1))]) rfl ?_
        replace h := h.2
        refine v_goto C dX4_whyNotBesideOthers_195 (tgt := 139) (by decide) ?_
        refine v_weak [some (.inr (18, i0)), some (.inl x1), none, none, some (.inl x4), none, some (.inl (x6 + 1))] ⟨rfl, rfl, rfl, rfl, trivial⟩ ?_
        exact h
      · replace h := h.2 c174
        refine v_aload_n C dX4_whyNotBesideOthers_177 rfl ?_
        refine v_get C dX4_whyNotBesideOthers_178 flX4_15 rfl (by decide) (by decide) (w := .inr (20, i0)) rfl ?_
        refine v_iload C dX4_whyNotBesideOthers_181 rfl ?_
        refine v_iald C dX4_whyNotBesideOthers_183 rfl h.1.1 h.1.2 ?_
        replace h := h.2
        refine v_iload C dX4_whyNotBesideOthers_184 rfl ?_
        refine v_icmp C dX4_whyNotBesideOthers_186 (tgt := 192) (by decide) (P := x4 ≤ (M171 20 i0 x6)) rfl (fun c186 => ?_) (fun c186 => ?_)
        · replace h := h.1 c186
          refine v_iinc C dX4_whyNotBesideOthers_192 (by decide) rfl h.1 (lv' := [some (.inr (18, i0)), some (.inl x1), none, none, some (.inl x4), none, some (.inl (x6 + 1))]) rfl ?_
          replace h := h.2
          refine v_goto C dX4_whyNotBesideOthers_195 (tgt := 139) (by decide) ?_
          refine v_weak [some (.inr (18, i0)), some (.inl x1), none, none, some (.inl x4), none, some (.inl (x6 + 1))] ⟨rfl, rfl, rfl, rfl, trivial⟩ ?_
          exact h
        · replace h := h.2 c186
          refine v_bipush C dX4_whyNotBesideOthers_189 (by decide) (by decide) ?_
          exact v_iret C dX4_whyNotBesideOthers_191 h
abbrev spX4_whyNotBesideOthers (pl p v t : Int) (M : Mem) (K : Kont) : Prop := (WFf (cFilm M 1) ∧ PlK (cFilm M 1) (M 19 pl) (M 20 pl) ∧ (0 ≤ p ∧ p < M 5 1 7) ∧ (0 ≤ v ∧ v < M 11 (7 * 1 + p) 4) ∧ (0 ≤ t ∧ t < M 5 1 0)) ∧
  K (some (whyB (cFilm M 1) (M 19 pl) (M 20 pl) p v t)) M
theorem if01 {P : Prop} [Decidable P] (h : (if P then (0 : Int) else 1) = 0) : P := by
  by_cases q : P
  · exact q
  · rw [if_neg q] at h; omega
theorem if01n {P : Prop} [Decidable P] (h : ¬ (if P then (0 : Int) else 1) = 0) : ¬ P := by
  intro q
  rw [if_pos q] at h
  exact h rfl
theorem ctX4_whyNotBesideOthers : CtX4_whyNotBesideOthers spX4_whyNotBesideOthers := by
  refine ct_of (by decide) dmC (fun _ => Nat.le_of_ble_eq_true rfl) ?_
  intro κ a M K C oM h
  obtain ⟨pl, p, v, t⟩ := a
  dsimp only [spX4_whyNotBesideOthers] at h
  obtain ⟨⟨hf, hP, hp, hv, ht⟩, hk⟩ := h
  have hw := wf_pv hf hp.1 hp.2 hv.1 hv.2
  have hwp := wf_p hf hp.1 hp.2
  have hnP := hf.2.2.2.1
  have hB := hf.2.1
  simp only [cFilm] at hw hnP hB hwp
  have six : ∀ (n : Nat) (q : Int), 0 ≤ q → q + n = M 5 1 7 → ¬ C4 (cFilm M 1) (M 19 pl) (M 20 pl) p v t → ¬ C5 (cFilm M 1) (M 19 pl) (M 20 pl) p t →
      (∀ j, 0 ≤ j → j < q → ¬ (M 11 (7 * 1 + j) 3 = p ∧ M 19 pl j ≠ -4 ∧ M 20 pl j < t + M 12 (7 * 1 + p) v)) →
      V κ 7 M 139 [some (.inr (18, pl)), some (.inl p), none, none, some (.inl (t + M 12 (7 * 1 + p) v)), none, some (.inl q)] [] K := by
    intro n
    induction n with
    | zero =>
      intro q h0 hn n4 n5 hj
      refine sgX4_whyNotBesideOthers_139 C pl p _ q ⟨fun c => ?_, fun c => absurd (by omega) c⟩
      rw [whyB_0 n4 n5 ?_] at hk
      · exact hk
      · rintro ⟨j, a, b, d⟩
        have b' : j < M 5 1 7 := b
        exact hj j a (by omega) d
    | succ n ih =>
      intro q h0 hn n4 n5 hj
      have go : ∀ (hq : ¬ (M 11 (7 * 1 + q) 3 = p ∧ M 19 pl q ≠ -4 ∧ M 20 pl q < t + M 12 (7 * 1 + p) v)), inR (q + 1) ∧ V κ 7 M 139 [some (.inr (18, pl)), some (.inl p), none, none, some (.inl (t + M 12 (7 * 1 + p) v)), none, some (.inl (q + 1))] [] K := by
        intro hq
        refine ⟨by omega, ih (q + 1) (by omega) (by omega) n4 n5 ?_⟩
        intro j a b
        by_cases e : j = q
        · rw [e]; exact hq
        · exact hj j a (by omega)
      refine sgX4_whyNotBesideOthers_139 C pl p _ q ⟨fun c => absurd c (by omega), fun c => ⟨by omega, fun c2 => go (fun z => c2 z.1), fun c2 => ⟨⟨h0, by omega⟩, fun c3 => go (fun z => z.2.1 (if01 c3)), fun c3 => ⟨by omega, fun c4 => go (fun z => by have := z.2.2; omega), fun c4 => ?_⟩⟩⟩⟩
      rw [whyB_6 n4 n5 ⟨q, h0, by show q < M 5 1 7; omega, by show M 11 (7 * 1 + q) 3 = p; omega, if01n c3, by show M 20 pl q < t + M 12 (7 * 1 + p) v; omega⟩] at hk
      exact hk
  have four : ∀ (n : Nat) (q : Int), 0 ≤ q → q + n = M 5 1 7 →
      (∀ j, 0 ≤ j → j < q → ¬ (j ≠ p ∧ M 19 pl j ≠ -4 ∧ M 20 pl j - (t + M 12 (7 * 1 + p) v) < M 5 1 1 ∧ t - (M 20 pl j + M 12 (7 * 1 + j) (M 19 pl j)) < M 5 1 1)) →
      V κ 7 M 21 [some (.inr (18, pl)), some (.inl p), none, some (.inl t), some (.inl (t + M 12 (7 * 1 + p) v)), some (.inl q), none] [] K := by
    intro n
    induction n with
    | zero =>
      intro q h0 hn hj
      have n4 : ¬ C4 (cFilm M 1) (M 19 pl) (M 20 pl) p v t := by
        rintro ⟨j, a, b, d⟩
        have b' : j < M 5 1 7 := b
        exact hj j a (by omega) d
      refine sgX4_whyNotBesideOthers_21 C pl p t _ q ⟨fun c => ⟨by omega, fun y ey => ⟨fun c2 => ?_, fun c2 => ?_⟩⟩, fun c => absurd (by omega) c⟩
      · refine six (M 5 1 7).toNat 0 (by omega) (by omega) n4 (fun z => z.1 ?_) (fun j a b => by omega)
        show M 11 (7 * 1 + p) 3 = -4
        omega
      · have hy : 0 ≤ y ∧ y < p := by omega
        refine ⟨⟨by omega, by omega⟩, fun c3 => ?_, fun c3 => ?_⟩
        · rw [whyB_5 n4 ⟨by show M 11 (7 * 1 + p) 3 ≠ -4; omega, Or.inl (by show M 19 pl (M 11 (7 * 1 + p) 3) = -4; rw [← ey]; exact if01 c3)⟩] at hk
          exact hk
        · have c3' := if01n c3
          have he := end_pre hf hP (q := y) (by omega) (by omega) c3'
          refine ⟨⟨by omega, he.1, he.2.2.2⟩, fun c4 => ?_, fun c4 => ?_⟩
          · refine six (M 5 1 7).toNat 0 (by omega) (by omega) n4 ?_ (fun j a b => by omega)
            rintro ⟨z1, z2⟩
            have z2' : M 19 pl (M 11 (7 * 1 + p) 3) = -4 ∨ t < M 20 pl (M 11 (7 * 1 + p) 3) + M 12 (7 * 1 + M 11 (7 * 1 + p) 3) (M 19 pl (M 11 (7 * 1 + p) 3)) := z2
            rw [← ey] at z2'
            rcases z2' with z | z
            · exact c3' z
            · omega
          · rw [whyB_5 n4 ⟨by show M 11 (7 * 1 + p) 3 ≠ -4; omega, Or.inr (by show t < M 20 pl (M 11 (7 * 1 + p) 3) + M 12 (7 * 1 + M 11 (7 * 1 + p) 3) (M 19 pl (M 11 (7 * 1 + p) 3)); rw [← ey]; omega)⟩] at hk
            exact hk
    | succ n ih =>
      intro q h0 hn hj
      have go : ∀ (hq : ¬ (q ≠ p ∧ M 19 pl q ≠ -4 ∧ M 20 pl q - (t + M 12 (7 * 1 + p) v) < M 5 1 1 ∧ t - (M 20 pl q + M 12 (7 * 1 + q) (M 19 pl q)) < M 5 1 1)), inR (q + 1) ∧ V κ 7 M 21 [some (.inr (18, pl)), some (.inl p), none, some (.inl t), some (.inl (t + M 12 (7 * 1 + p) v)), some (.inl (q + 1)), none] [] K := by
        intro hq
        refine ⟨by omega, ih (q + 1) (by omega) (by omega) ?_⟩
        intro j a b
        by_cases e : j = q
        · rw [e]; exact hq
        · exact hj j a (by omega)
      refine sgX4_whyNotBesideOthers_21 C pl p t _ q ⟨fun c => absurd c (by omega), fun c => ⟨fun c2 => go (fun z => z.1 c2), fun c2 => ⟨⟨h0, by omega⟩, fun c3 => go (fun z => z.2.1 (if01 c3)), fun c3 => ?_⟩⟩⟩
      have c3' := if01n c3
      have he := end_pre hf hP (q := q) h0 (by omega) c3'
      refine ⟨by omega, by omega, fun c4 => go (fun z => by have := z.2.2.1; omega), fun c4 => ⟨⟨by omega, he.1, he.2.2.2⟩, by omega, fun c5 => go (fun z => by have := z.2.2.2; omega), fun c5 => ?_⟩⟩
      rw [whyB_4 ⟨q, h0, by show q < M 5 1 7; omega, c2, c3', by show M 20 pl q - (t + M 12 (7 * 1 + p) v) < M 5 1 1; omega, by show t - (M 20 pl q + M 12 (7 * 1 + q) (M 19 pl q)) < M 5 1 1; omega⟩] at hk
      exact hk
  refine sgX4_whyNotBesideOthers_0 C pl p v t ⟨by omega, by omega, by omega, fun y ey => ?_⟩
  rw [ey]
  exact four (M 5 1 7).toNat 0 (by omega) (by omega) (fun j a b => by omega)
/-! ===== GapTellings$Plan.whyNot ===== -/
abbrev rmX4_whyNot : Room := { frames := 2, cells := 0, slots := 0, locals := 47 }
abbrev argX4_whyNot (a : Int × Int × Int × Int × Int) : List PV := [.inr (18, a.1), .inr (14, a.2.1), .inl a.2.2.1, .inl a.2.2.2.1, .inl a.2.2.2.2]
abbrev CtX4_whyNot (sp : Int → Int → Int → Int → Int → Mem → Kont → Prop) : Prop := Ct yX4_whyNot cX4_whyNot 6 (some .int) rmX4_whyNot domC argX4_whyNot (fun a => sp a.1 a.2.1 a.2.2.1 a.2.2.2.1 a.2.2.2.2)
theorem dX4_whyNot_0 : decode cX4_whyNot 0 = .ok (.aload_n 1, 1) := by decide +kernel
theorem dX4_whyNot_1 : decode cX4_whyNot 1 = .ok (.iload_n 2, 1) := by decide +kernel
theorem dX4_whyNot_2 : decode cX4_whyNot 2 = .ok (.iload_n 3, 1) := by decide +kernel
theorem dX4_whyNot_3 : decode cX4_whyNot 3 = .ok (.iload 4, 2) := by decide +kernel
theorem dX4_whyNot_5 : decode cX4_whyNot 5 = .ok (.invokevirtual 53, 3) := by decide +kernel
theorem dX4_whyNot_8 : decode cX4_whyNot 8 = .ok (.istore 5, 2) := by decide +kernel
theorem dX4_whyNot_10 : decode cX4_whyNot 10 = .ok (.iload 5, 2) := by decide +kernel
theorem dX4_whyNot_12 : decode cX4_whyNot 12 = .ok (.ifCond .eq 8, 3) := by decide +kernel
theorem dX4_whyNot_15 : decode cX4_whyNot 15 = .ok (.iload 5, 2) := by decide +kernel
theorem dX4_whyNot_17 : decode cX4_whyNot 17 = .ok (.goto 11, 3) := by decide +kernel
theorem dX4_whyNot_20 : decode cX4_whyNot 20 = .ok (.aload_n 0, 1) := by decide +kernel
theorem dX4_whyNot_21 : decode cX4_whyNot 21 = .ok (.iload_n 2, 1) := by decide +kernel
theorem dX4_whyNot_22 : decode cX4_whyNot 22 = .ok (.iload_n 3, 1) := by decide +kernel
theorem dX4_whyNot_23 : decode cX4_whyNot 23 = .ok (.iload 4, 2) := by decide +kernel
theorem dX4_whyNot_25 : decode cX4_whyNot 25 = .ok (.invokevirtual 59, 3) := by decide +kernel
theorem dX4_whyNot_28 : decode cX4_whyNot 28 = .ok (.ireturn, 1) := by decide +kernel
theorem ivX4_53 : IV RX4 53 yX6_ownWhyNot cX6_ownWhyNot 6 (some .int) 3 := ⟨(tb_mem (t_in3 (List.mem_of_getElem? (i := 61) (by decide +kernel))) (by decide +kernel)), (tb_mem (t_in3 (List.mem_of_getElem? (i := 62) (by decide +kernel))) (by decide +kernel)), (tb_mem (t_in3 (List.mem_of_getElem? (i := 63) (by decide +kernel))) (by decide +kernel)), (tb_mem (t_in1 (List.mem_of_getElem? (i := 5) (by decide +kernel))) (by decide +kernel)), (tb_mem (t_in3 (List.mem_of_getElem? (i := 64) (by decide +kernel))) (by decide +kernel)), ⟨by decide +kernel, by decide +kernel, by decide +kernel⟩⟩
theorem ivX4_59 : IV RX4 59 yX4_whyNotBesideOthers cX4_whyNotBesideOthers 7 (some .int) 3 := ⟨(tb_mem (t_in3 (List.mem_of_getElem? (i := 69) (by decide +kernel))) (by decide +kernel)), (tb_mem (t_in3 (List.mem_of_getElem? (i := 70) (by decide +kernel))) (by decide +kernel)), (tb_mem (t_in3 (List.mem_of_getElem? (i := 71) (by decide +kernel))) (by decide +kernel)), (tb_mem (t_in1 (List.mem_of_getElem? (i := 6) (by decide +kernel))) (by decide +kernel)), (tb_mem (t_in3 (List.mem_of_getElem? (i := 72) (by decide +kernel))) (by decide +kernel)), ⟨by decide +kernel, by decide +kernel, by decide +kernel⟩⟩
set_option maxHeartbeats 4000000 in
set_option maxRecDepth 20000 in
theorem sgX4_whyNot_0 {κ : Kx} {K : Kont} {M : Mem} (C : Cx κ RX4 cX4_whyNot 6 (some .int) rmX4_whyNot domC) (i0 : Int) (i1 : Int) (x2 : Int) (x3 : Int) (x4 : Int)
    (h :
    spX6_ownWhyNot i1 x2 x3 x4 M (rI (fun r5 M5 =>
    ((r5 = 0 →
      spX4_whyNotBesideOthers i0 x2 x3 x4 M5 (rI (fun r25 M25 =>
      K (some r25) M25))) ∧
     (¬ (r5 = 0) →
      K (some r5) M5))))) : V κ 6 M 0 [some (.inr (18, i0)), some (.inr (14, i1)), some (.inl x2), some (.inl x3), some (.inl x4), none] [] K := by
  refine v_aload_n C dX4_whyNot_0 rfl ?_
  refine v_iload_n C dX4_whyNot_1 rfl ?_
  refine v_iload_n C dX4_whyNot_2 rfl ?_
  refine v_iload C dX4_whyNot_3 rfl ?_
  refine v_invV C ctX6_ownWhyNot dX4_whyNot_5 ivX4_53 ⟨by decide, by decide, rfl, rfl⟩ ((i1, x2, x3, x4) : Int × Int × Int × Int) (As := [.inl x2, .inl x3, .inl x4]) rfl rfl rfl (by decide) rfl (st := []) rfl (Nat.le_of_ble_eq_true rfl) h (fun o M5 oM5 io5 h => ?_)
  obtain ⟨r5, rfl, h⟩ := rI_out h
  refine v_push ?_
  refine v_istore C dX4_whyNot_8 (by decide) (Nat.le_of_ble_eq_true rfl) (lv' := [some (.inr (18, i0)), some (.inr (14, i1)), some (.inl x2), some (.inl x3), some (.inl x4), some (.inl r5)]) rfl ?_
  refine v_iload C dX4_whyNot_10 rfl ?_
  refine v_if C dX4_whyNot_12 (tgt := 20) (by decide) (P := r5 = 0) rfl (fun c12 => ?_) (fun c12 => ?_)
  · replace h := h.1 c12
    refine v_aload_n C dX4_whyNot_20 rfl ?_
    refine v_iload_n C dX4_whyNot_21 rfl ?_
    refine v_iload_n C dX4_whyNot_22 rfl ?_
    refine v_iload C dX4_whyNot_23 rfl ?_
    refine v_invV C ctX4_whyNotBesideOthers dX4_whyNot_25 ivX4_59 ⟨by decide, by decide, rfl, rfl⟩ ((i0, x2, x3, x4) : Int × Int × Int × Int) (As := [.inl x2, .inl x3, .inl x4]) rfl rfl rfl (by decide) rfl (st := []) rfl (Nat.le_of_ble_eq_true rfl) h (fun o M25 oM25 io25 h => ?_)
    obtain ⟨r25, rfl, h⟩ := rI_out h
    refine v_push ?_
    exact v_iret C dX4_whyNot_28 h
  · replace h := h.2 c12
    refine v_iload C dX4_whyNot_15 rfl ?_
    refine v_goto C dX4_whyNot_17 (tgt := 28) (by decide) ?_
    exact v_iret C dX4_whyNot_28 h
abbrev spX4_whyNot (pl tr p v t : Int) (M : Mem) (K : Kont) : Prop := (WFf (cFilm M 1) ∧ PlK (cFilm M 1) (M 19 pl) (M 20 pl) ∧ (0 ≤ p ∧ p < M 5 1 7) ∧ (0 ≤ v ∧ v < M 11 (7 * 1 + p) 4) ∧ (0 ≤ t ∧ t < M 5 1 0)) ∧
  K (some (whyW (cFilm M 1) (M 16 tr) (M 19 pl) (M 20 pl) p v t)) M
theorem ctX4_whyNot : CtX4_whyNot spX4_whyNot := by
  refine ct_of (by decide) dmC (fun _ => Nat.le_of_ble_eq_true rfl) ?_
  intro κ a M K C oM h
  obtain ⟨pl, tr, p, v, t⟩ := a
  dsimp only [spX4_whyNot] at h
  obtain ⟨⟨hf, hP, hp, hv, ht⟩, hk⟩ := h
  refine sgX4_whyNot_0 C pl tr p v t ⟨⟨hf, hp, hv, ht⟩, fun c => ⟨⟨hf, hP, hp, hv, ht⟩, ?_⟩, fun c => ?_⟩
  · unfold whyW at hk
    rw [if_pos c] at hk
    exact hk
  · unfold whyW at hk
    rw [if_neg c] at hk
    exact hk
end
section
/-! ===== Plan, continued ===== -/
/-! ===== GapTellings$Plan.copyFrom ===== -/
abbrev rmX4_copyFrom : Room := { frames := 1, cells := 0, slots := 0, locals := 26 }
abbrev argX4_copyFrom (a : Int × Int) : List PV := [.inr (18, a.1), .inr (18, a.2)]
abbrev CtX4_copyFrom (sp : Int → Int → Mem → Kont → Prop) : Prop := Ct yX4_copyFrom cX4_copyFrom 2 none rmX4_copyFrom domC argX4_copyFrom (fun a => sp a.1 a.2)
theorem dX4_copyFrom_0 : decode cX4_copyFrom 0 = .ok (.aload_n 1, 1) := by decide +kernel
theorem dX4_copyFrom_1 : decode cX4_copyFrom 1 = .ok (.getfield 9, 3) := by decide +kernel
theorem dX4_copyFrom_4 : decode cX4_copyFrom 4 = .ok (.iconst 0, 1) := by decide +kernel
theorem dX4_copyFrom_5 : decode cX4_copyFrom 5 = .ok (.aload_n 0, 1) := by decide +kernel
theorem dX4_copyFrom_6 : decode cX4_copyFrom 6 = .ok (.getfield 9, 3) := by decide +kernel
theorem dX4_copyFrom_9 : decode cX4_copyFrom 9 = .ok (.iconst 0, 1) := by decide +kernel
theorem dX4_copyFrom_10 : decode cX4_copyFrom 10 = .ok (.bipush 7, 2) := by decide +kernel
theorem dX4_copyFrom_12 : decode cX4_copyFrom 12 = .ok (.invokestatic 28, 3) := by decide +kernel
theorem dX4_copyFrom_15 : decode cX4_copyFrom 15 = .ok (.aload_n 1, 1) := by decide +kernel
theorem dX4_copyFrom_16 : decode cX4_copyFrom 16 = .ok (.getfield 15, 3) := by decide +kernel
theorem dX4_copyFrom_19 : decode cX4_copyFrom 19 = .ok (.iconst 0, 1) := by decide +kernel
theorem dX4_copyFrom_20 : decode cX4_copyFrom 20 = .ok (.aload_n 0, 1) := by decide +kernel
theorem dX4_copyFrom_21 : decode cX4_copyFrom 21 = .ok (.getfield 15, 3) := by decide +kernel
theorem dX4_copyFrom_24 : decode cX4_copyFrom 24 = .ok (.iconst 0, 1) := by decide +kernel
theorem dX4_copyFrom_25 : decode cX4_copyFrom 25 = .ok (.bipush 7, 2) := by decide +kernel
theorem dX4_copyFrom_27 : decode cX4_copyFrom 27 = .ok (.invokestatic 28, 3) := by decide +kernel
theorem dX4_copyFrom_30 : decode cX4_copyFrom 30 = .ok (.return_, 1) := by decide +kernel
theorem ivX4_28 : ICp RX4 28 := ⟨(tb_mem (t_in3 (List.mem_of_getElem? (i := 215) (by decide +kernel))) (by decide +kernel)), (tb_mem (t_in3 (List.mem_of_getElem? (i := 170) (by decide +kernel))) (by decide +kernel)), (tb_mem (t_in3 (List.mem_of_getElem? (i := 169) (by decide +kernel))) (by decide +kernel)), (tb_mem (t_in1 (List.mem_of_getElem? (i := 17) (by decide +kernel))) (by decide +kernel))⟩
set_option maxHeartbeats 4000000 in
set_option maxRecDepth 20000 in
theorem sgX4_copyFrom_0 {κ : Kx} {K : Kont} {M : Mem} (C : Cx κ RX4 cX4_copyFrom 2 none rmX4_copyFrom domC) (i0 : Int) (i1 : Int)
    (h :
    ∀ M12 : Mem, M12 = cpyM M 19 i1 0 19 i0 0 7 →
    ∀ M27 : Mem, M27 = cpyM M12 20 i1 0 20 i0 0 7 →
    K none M27) : V κ 2 M 0 [some (.inr (18, i0)), some (.inr (18, i1))] [] K := by
  refine v_aload_n C dX4_copyFrom_0 rfl ?_
  refine v_get C dX4_copyFrom_1 flX4_9 rfl (by decide) (by decide) (w := .inr (19, i1)) rfl ?_
  refine v_iconst C dX4_copyFrom_4 (by decide) ?_
  refine v_aload_n C dX4_copyFrom_5 rfl ?_
  refine v_get C dX4_copyFrom_6 flX4_9 rfl (by decide) (by decide) (w := .inr (19, i0)) rfl ?_
  refine v_iconst C dX4_copyFrom_9 (by decide) ?_
  refine v_bipush C dX4_copyFrom_10 (by decide) (by decide) ?_
  refine v_copy C dX4_copyFrom_12 ivX4_28 rfl rfl (by decide) (by decide) (by decide) (by decide) (by decide) (Nat.le_of_ble_eq_true rfl) ⟨by decide, by decide⟩ ?_
  refine v_nmM (fun M12 eM12 => ?_)
  replace h := h M12 eM12
  refine v_aload_n C dX4_copyFrom_15 rfl ?_
  refine v_get C dX4_copyFrom_16 flX4_15 rfl (by decide) (by decide) (w := .inr (20, i1)) rfl ?_
  refine v_iconst C dX4_copyFrom_19 (by decide) ?_
  refine v_aload_n C dX4_copyFrom_20 rfl ?_
  refine v_get C dX4_copyFrom_21 flX4_15 rfl (by decide) (by decide) (w := .inr (20, i0)) rfl ?_
  refine v_iconst C dX4_copyFrom_24 (by decide) ?_
  refine v_bipush C dX4_copyFrom_25 (by decide) (by decide) ?_
  refine v_copy C dX4_copyFrom_27 ivX4_28 rfl rfl (by decide) (by decide) (by decide) (by decide) (by decide) (Nat.le_of_ble_eq_true rfl) ⟨by decide, by decide⟩ ?_
  refine v_nmM (fun M27 eM27 => ?_)
  replace h := h M27 eM27
  exact v_vret C dX4_copyFrom_30 h
abbrev spX4_copyFrom (pl po : Int) (M : Mem) (K : Kont) : Prop := K none (cpyM (cpyM M 19 po 0 19 pl 0 7) 20 po 0 20 pl 0 7)
theorem ctX4_copyFrom : CtX4_copyFrom spX4_copyFrom := by
  refine ct_of (by decide) dmC (fun _ => Nat.le_of_ble_eq_true rfl) ?_
  intro κ a M K C oM h
  obtain ⟨pl, po⟩ := a
  exact sgX4_copyFrom_0 C pl po (fun M1 e1 M2 e2 => by rw [e2, e1]; exact h)
/-! ===== GapTellings$Plan.lowestFaulty ===== -/
abbrev rmX4_lowestFaulty : Room := { frames := 3, cells := 0, slots := 0, locals := 72 }
abbrev argX4_lowestFaulty (a : Int × Int) : List PV := [.inr (18, a.1), .inr (14, a.2)]
abbrev CtX4_lowestFaulty (sp : Int → Int → Mem → Kont → Prop) : Prop := Ct yX4_lowestFaulty cX4_lowestFaulty 3 (some .int) rmX4_lowestFaulty domC argX4_lowestFaulty (fun a => sp a.1 a.2)
theorem dX4_lowestFaulty_0 : decode cX4_lowestFaulty 0 = .ok (.iconst 0, 1) := by decide +kernel
theorem dX4_lowestFaulty_1 : decode cX4_lowestFaulty 1 = .ok (.istore_n 2, 1) := by decide +kernel
theorem dX4_lowestFaulty_2 : decode cX4_lowestFaulty 2 = .ok (.iload_n 2, 1) := by decide +kernel
theorem dX4_lowestFaulty_3 : decode cX4_lowestFaulty 3 = .ok (.aload_n 0, 1) := by decide +kernel
theorem dX4_lowestFaulty_4 : decode cX4_lowestFaulty 4 = .ok (.getfield 18, 3) := by decide +kernel
theorem dX4_lowestFaulty_7 : decode cX4_lowestFaulty 7 = .ok (.getfield 34, 3) := by decide +kernel
theorem dX4_lowestFaulty_10 : decode cX4_lowestFaulty 10 = .ok (.if_icmp .ge 40, 3) := by decide +kernel
theorem dX4_lowestFaulty_13 : decode cX4_lowestFaulty 13 = .ok (.aload_n 0, 1) := by decide +kernel
theorem dX4_lowestFaulty_14 : decode cX4_lowestFaulty 14 = .ok (.iload_n 2, 1) := by decide +kernel
theorem dX4_lowestFaulty_15 : decode cX4_lowestFaulty 15 = .ok (.invokevirtual 40, 3) := by decide +kernel
theorem dX4_lowestFaulty_18 : decode cX4_lowestFaulty 18 = .ok (.ifCond .eq 26, 3) := by decide +kernel
theorem dX4_lowestFaulty_21 : decode cX4_lowestFaulty 21 = .ok (.aload_n 0, 1) := by decide +kernel
theorem dX4_lowestFaulty_22 : decode cX4_lowestFaulty 22 = .ok (.aload_n 1, 1) := by decide +kernel
theorem dX4_lowestFaulty_23 : decode cX4_lowestFaulty 23 = .ok (.iload_n 2, 1) := by decide +kernel
theorem dX4_lowestFaulty_24 : decode cX4_lowestFaulty 24 = .ok (.aload_n 0, 1) := by decide +kernel
theorem dX4_lowestFaulty_25 : decode cX4_lowestFaulty 25 = .ok (.getfield 9, 3) := by decide +kernel
theorem dX4_lowestFaulty_28 : decode cX4_lowestFaulty 28 = .ok (.iload_n 2, 1) := by decide +kernel
theorem dX4_lowestFaulty_29 : decode cX4_lowestFaulty 29 = .ok (.iaload, 1) := by decide +kernel
theorem dX4_lowestFaulty_30 : decode cX4_lowestFaulty 30 = .ok (.aload_n 0, 1) := by decide +kernel
theorem dX4_lowestFaulty_31 : decode cX4_lowestFaulty 31 = .ok (.getfield 15, 3) := by decide +kernel
theorem dX4_lowestFaulty_34 : decode cX4_lowestFaulty 34 = .ok (.iload_n 2, 1) := by decide +kernel
theorem dX4_lowestFaulty_35 : decode cX4_lowestFaulty 35 = .ok (.iaload, 1) := by decide +kernel
theorem dX4_lowestFaulty_36 : decode cX4_lowestFaulty 36 = .ok (.invokevirtual 80, 3) := by decide +kernel
theorem dX4_lowestFaulty_39 : decode cX4_lowestFaulty 39 = .ok (.ifCond .eq 5, 3) := by decide +kernel
theorem dX4_lowestFaulty_42 : decode cX4_lowestFaulty 42 = .ok (.iload_n 2, 1) := by decide +kernel
theorem dX4_lowestFaulty_43 : decode cX4_lowestFaulty 43 = .ok (.ireturn, 1) := by decide +kernel
theorem dX4_lowestFaulty_44 : decode cX4_lowestFaulty 44 = .ok (.iinc 2 1, 3) := by decide +kernel
theorem dX4_lowestFaulty_47 : decode cX4_lowestFaulty 47 = .ok (.goto (-45), 3) := by decide +kernel
theorem dX4_lowestFaulty_50 : decode cX4_lowestFaulty 50 = .ok (.bipush (-4), 2) := by decide +kernel
theorem dX4_lowestFaulty_52 : decode cX4_lowestFaulty 52 = .ok (.ireturn, 1) := by decide +kernel
theorem ivX4_80 : IV RX4 80 yX4_whyNot cX4_whyNot 6 (some .int) 4 := ⟨(tb_mem (t_in3 (List.mem_of_getElem? (i := 57) (by decide +kernel))) (by decide +kernel)), (tb_mem (t_in3 (List.mem_of_getElem? (i := 58) (by decide +kernel))) (by decide +kernel)), (tb_mem (t_in3 (List.mem_of_getElem? (i := 59) (by decide +kernel))) (by decide +kernel)), (tb_mem (t_in1 (List.mem_of_getElem? (i := 6) (by decide +kernel))) (by decide +kernel)), (tb_mem (t_in3 (List.mem_of_getElem? (i := 60) (by decide +kernel))) (by decide +kernel)), ⟨by decide +kernel, by decide +kernel, by decide +kernel⟩⟩
set_option maxHeartbeats 4000000 in
set_option maxRecDepth 20000 in
theorem sgX4_lowestFaulty_0 {κ : Kx} {K : Kont} {M : Mem} (C : Cx κ RX4 cX4_lowestFaulty 3 (some .int) rmX4_lowestFaulty domC) (i0 : Int) (i1 : Int)
    (h :
    V κ 3 M 2 [some (.inr (18, i0)), some (.inr (14, i1)), some (.inl 0)] [] K) : V κ 3 M 0 [some (.inr (18, i0)), some (.inr (14, i1)), none] [] K := by
  refine v_iconst C dX4_lowestFaulty_0 (by decide) ?_
  refine v_istore_n C dX4_lowestFaulty_1 (by decide) (Nat.le_of_ble_eq_true rfl) (lv' := [some (.inr (18, i0)), some (.inr (14, i1)), some (.inl 0)]) rfl ?_
  refine v_weak [some (.inr (18, i0)), some (.inr (14, i1)), some (.inl 0)] ⟨rfl, rfl, rfl, trivial⟩ ?_
  exact h
set_option maxHeartbeats 4000000 in
set_option maxRecDepth 20000 in
theorem sgX4_lowestFaulty_2 {κ : Kx} {K : Kont} {M : Mem} (C : Cx κ RX4 cX4_lowestFaulty 3 (some .int) rmX4_lowestFaulty domC) (i0 : Int) (i1 : Int) (x2 : Int)
    (h :
    (((M 5 1 7) ≤ x2 →
      K (some (-4)) M) ∧
     (¬ ((M 5 1 7) ≤ x2) →
      spX4_has i0 x2 M (rI (fun r15 M15 =>
      ((r15 = 0 →
        inR (x2 + 1) ∧
        V κ 3 M15 2 [some (.inr (18, i0)), some (.inr (14, i1)), some (.inl (x2 + 1))] [] K) ∧
       (¬ (r15 = 0) →
        (0 ≤ x2 ∧ x2 < 7) ∧
        (0 ≤ x2 ∧ x2 < 7) ∧
        spX4_whyNot i0 i1 x2 (M15 19 i0 x2) (M15 20 i0 x2) M15 (rI (fun r36 M36 =>
        ((r36 = 0 →
          inR (x2 + 1) ∧
          V κ 3 M36 2 [some (.inr (18, i0)), some (.inr (14, i1)), some (.inl (x2 + 1))] [] K) ∧
         (¬ (r36 = 0) →
          K (some x2) M36))))))))))) : V κ 3 M 2 [some (.inr (18, i0)), some (.inr (14, i1)), some (.inl x2)] [] K := by
  refine v_iload_n C dX4_lowestFaulty_2 rfl ?_
  refine v_aload_n C dX4_lowestFaulty_3 rfl ?_
  refine v_get C dX4_lowestFaulty_4 flX4_18 rfl (by decide) (by decide) (w := .inr (5, 1)) rfl ?_
  refine v_get C dX4_lowestFaulty_7 flX4_34 rfl (by decide) (by decide) (w := .inl (M 5 1 7)) rfl ?_
  refine v_icmp C dX4_lowestFaulty_10 (tgt := 50) (by decide) (P := (M 5 1 7) ≤ x2) rfl (fun c10 => ?_) (fun c10 => ?_)
  · replace h := h.1 c10
    refine v_bipush C dX4_lowestFaulty_50 (by decide) (by decide) ?_
    exact v_iret C dX4_lowestFaulty_52 h
  · replace h := h.2 c10
    refine v_aload_n C dX4_lowestFaulty_13 rfl ?_
    refine v_iload_n C dX4_lowestFaulty_14 rfl ?_
    refine v_invV C ctX4_has dX4_lowestFaulty_15 ivX4_40 ⟨by decide, by decide, rfl, rfl⟩ ((i0, x2) : Int × Int) (As := [.inl x2]) rfl rfl rfl (by decide) rfl (st := []) rfl (Nat.le_of_ble_eq_true rfl) h (fun o M15 oM15 io15 h => ?_)
    obtain ⟨r15, rfl, h⟩ := rI_out h
    refine v_push ?_
    refine v_if C dX4_lowestFaulty_18 (tgt := 44) (by decide) (P := r15 = 0) rfl (fun c18 => ?_) (fun c18 => ?_)
    · replace h := h.1 c18
      refine v_iinc C dX4_lowestFaulty_44 (by decide) rfl h.1 (lv' := [some (.inr (18, i0)), some (.inr (14, i1)), some (.inl (x2 + 1))]) rfl ?_
      replace h := h.2
      refine v_goto C dX4_lowestFaulty_47 (tgt := 2) (by decide) ?_
      refine v_weak [some (.inr (18, i0)), some (.inr (14, i1)), some (.inl (x2 + 1))] ⟨rfl, rfl, rfl, trivial⟩ ?_
      exact h
    · replace h := h.2 c18
      refine v_aload_n C dX4_lowestFaulty_21 rfl ?_
      refine v_aload_n C dX4_lowestFaulty_22 rfl ?_
      refine v_iload_n C dX4_lowestFaulty_23 rfl ?_
      refine v_aload_n C dX4_lowestFaulty_24 rfl ?_
      refine v_get C dX4_lowestFaulty_25 flX4_9 rfl (by decide) (by decide) (w := .inr (19, i0)) rfl ?_
      refine v_iload_n C dX4_lowestFaulty_28 rfl ?_
      refine v_iald C dX4_lowestFaulty_29 rfl h.1.1 h.1.2 ?_
      replace h := h.2
      refine v_aload_n C dX4_lowestFaulty_30 rfl ?_
      refine v_get C dX4_lowestFaulty_31 flX4_15 rfl (by decide) (by decide) (w := .inr (20, i0)) rfl ?_
      refine v_iload_n C dX4_lowestFaulty_34 rfl ?_
      refine v_iald C dX4_lowestFaulty_35 rfl h.1.1 h.1.2 ?_
      replace h := h.2
      refine v_invV C ctX4_whyNot dX4_lowestFaulty_36 ivX4_80 ⟨by decide, by decide, rfl, rfl⟩ ((i0, i1, x2, M15 19 i0 x2, M15 20 i0 x2) : Int × Int × Int × Int × Int) (As := [.inr (14, i1), .inl x2, .inl (M15 19 i0 x2), .inl (M15 20 i0 x2)]) rfl rfl rfl (by decide) rfl (st := []) rfl (Nat.le_of_ble_eq_true rfl) h (fun o M36 oM36 io36 h => ?_)
      obtain ⟨r36, rfl, h⟩ := rI_out h
      refine v_push ?_
      refine v_if C dX4_lowestFaulty_39 (tgt := 44) (by decide) (P := r36 = 0) rfl (fun c39 => ?_) (fun c39 => ?_)
      · replace h := h.1 c39
        refine v_iinc C dX4_lowestFaulty_44 (by decide) rfl h.1 (lv' := [some (.inr (18, i0)), some (.inr (14, i1)), some (.inl (x2 + 1))]) rfl ?_
        replace h := h.2
        refine v_goto C dX4_lowestFaulty_47 (tgt := 2) (by decide) ?_
        refine v_weak [some (.inr (18, i0)), some (.inr (14, i1)), some (.inl (x2 + 1))] ⟨rfl, rfl, rfl, trivial⟩ ?_
        exact h
      · replace h := h.2 c39
        refine v_iload_n C dX4_lowestFaulty_42 rfl ?_
        exact v_iret C dX4_lowestFaulty_43 h
abbrev spX4_lowestFaulty (pl tr : Int) (M : Mem) (K : Kont) : Prop := (WFf (cFilm M 1) ∧ PlK (cFilm M 1) (M 19 pl) (M 20 pl)) ∧ K (some (lowF (cFilm M 1) (M 16 tr) (M 19 pl) (M 20 pl) (M 5 1 7).toNat 0)) M
theorem ctX4_lowestFaulty : CtX4_lowestFaulty spX4_lowestFaulty := by
  refine ct_of (by decide) dmC (fun _ => Nat.le_of_ble_eq_true rfl) ?_
  intro κ a M K C oM h
  obtain ⟨pl, tr⟩ := a
  dsimp only [spX4_lowestFaulty] at h
  obtain ⟨⟨hf, hP⟩, hk⟩ := h
  have hnP := hf.2.2.2.1
  simp only [cFilm] at hnP
  refine sgX4_lowestFaulty_0 C pl tr ?_
  have loop : ∀ (n : Nat) (p : Int), 0 ≤ p → p + n = M 5 1 7 → K (some (lowF (cFilm M 1) (M 16 tr) (M 19 pl) (M 20 pl) n p)) M →
      V κ 3 M 2 [some (.inr (18, pl)), some (.inr (14, tr)), some (.inl p)] [] K := by
    intro n
    induction n with
    | zero =>
      intro p h0 hn hk
      exact sgX4_lowestFaulty_2 C pl tr p ⟨fun c => hk, fun c => absurd (by omega) c⟩
    | succ n ih =>
      intro p h0 hn hk
      unfold lowF at hk
      refine sgX4_lowestFaulty_2 C pl tr p ⟨fun c => absurd c (by omega), fun c => ⟨⟨h0, by omega⟩, fun c2 => ⟨by omega, ?_⟩, fun c2 => ⟨by omega, by omega, ?_⟩⟩⟩
      · rw [if_neg (fun z => z.1 (if01 c2))] at hk
        exact ih (p + 1) (by omega) (by omega) hk
      · have c3 := if01n c2
        have a := hP.at h0 (by omega) c3
        have b := wf_pv hf h0 a.1 a.2.1.1 a.2.1.2
        simp only [cFilm] at a b
        refine ⟨⟨hf, hP, ⟨h0, by omega⟩, a.2.1, by omega, by omega⟩, fun c4 => ⟨by omega, ?_⟩, fun c4 => ?_⟩
        · rw [if_neg (fun z => z.2 c4)] at hk
          exact ih (p + 1) (by omega) (by omega) hk
        · rw [if_pos ⟨c3, c4⟩] at hk
          exact hk
  exact loop (M 5 1 7).toNat 0 (by omega) (by omega) hk
theorem lowF_spec (F : Film) (S ver sta : Int → Int) : ∀ (n : Nat) (p : Int), lowF F S ver sta n p = -4 ∨ (p ≤ lowF F S ver sta n p ∧ lowF F S ver sta n p < p + n ∧ ver (lowF F S ver sta n p) ≠ -4) := by
  intro n
  induction n with
  | zero => intro p; exact Or.inl rfl
  | succ n ih =>
    intro p
    unfold lowF
    split
    · rename_i h
      exact Or.inr ⟨by omega, by omega, h.1⟩
    · rcases ih (p + 1) with h | h
      · exact Or.inl h
      · exact Or.inr ⟨by omega, by omega, h.2.2⟩
/-- a picture taken off a plan -/
def offP (f : Int → Int) (p : Int) : Int → Int := fun q => if q = p then -4 else f q
/-- again and again the lowest picture that has a reason why not is taken off: versions, ticks then -/
noncomputable def dfN (F : Film) (S : Int → Int) : Nat → (Int → Int) → (Int → Int) → (Int → Int) × (Int → Int)
  | 0, ver, sta => (ver, sta)
  | n + 1, ver, sta => if lowF F S ver sta (F 3 0 0).toNat 0 = -4 then (ver, sta) else dfN F S n (offP ver (lowF F S ver sta (F 3 0 0).toNat 0)) (offP sta (lowF F S ver sta (F 3 0 0).toNat 0))
theorem PlK_off {F : Film} {ver sta : Int → Int} (h : PlK F ver sta) (p : Int) : PlK F (offP ver p) (offP sta p) := by
  intro q h0 h1
  unfold offP
  by_cases e : q = p
  · rw [if_pos e, if_pos e]
    exact Or.inl ⟨rfl, rfl⟩
  · rw [if_neg e, if_neg e]
    exact h q h0 h1
/-- nothing but a plan has changed -/
def AgP (M M' : Mem) (pl : Int) : Prop := ∀ r i, ¬ ((r = 19 ∨ r = 20) ∧ i = pl) → M' r i = M r i
theorem AgP.rf {M : Mem} {pl : Int} : AgP M M pl := fun _ _ _ => rfl
theorem AgP.tr {M M' M2 : Mem} {pl : Int} (h : AgP M M' pl) (h2 : AgP M' M2 pl) : AgP M M2 pl := fun r i hn => (h2 r i hn).trans (h r i hn)
theorem AgP.up (M : Mem) (pl p a b : Int) : AgP M (up3 (up3 M 19 pl p a) 20 pl p b) pl := by
  intro r i hn
  funext j
  rw [show up3 (up3 M 19 pl p a) 20 pl p b r i j = up3 M 19 pl p a r i j from if_neg (fun q => hn ⟨Or.inr q.1, q.2.1⟩)]
  exact if_neg (fun q => hn ⟨Or.inl q.1, q.2.1⟩)
theorem AgP.film {M M' : Mem} {pl : Int} (h : AgP M M' pl) (f : Int) : cFilm M' f = cFilm M f := by
  refine cFilm_eq (fun r h1 h2 => ?_) f
  funext i
  exact h r i (by omega)
theorem put_19 (M : Mem) (pl p a b : Int) : up3 (up3 M 19 pl p a) 20 pl p b 19 pl = fun q => if q = p then a else M 19 pl q := by
  funext q
  rw [up3_r _ _ _ _ _ (by decide)]
  by_cases e : q = p
  · rw [e, up3_s, if_pos rfl]
  · rw [up3_j _ _ _ _ _ e, if_neg e]
theorem put_20 (M : Mem) (pl p a b : Int) : up3 (up3 M 19 pl p a) 20 pl p b 20 pl = fun q => if q = p then b else M 20 pl q := by
  funext q
  by_cases e : q = p
  · rw [e, up3_s, if_pos rfl]
  · rw [up3_j _ _ _ _ _ e, if_neg e, up3_r _ _ _ _ _ (by decide)]
/-! ===== GapTellings$Plan.dropFaulty ===== -/
abbrev rmX4_dropFaulty : Room := { frames := 4, cells := 0, slots := 0, locals := 94 }
abbrev argX4_dropFaulty (a : Int × Int) : List PV := [.inr (18, a.1), .inr (14, a.2)]
abbrev CtX4_dropFaulty (sp : Int → Int → Mem → Kont → Prop) : Prop := Ct yX4_dropFaulty cX4_dropFaulty 4 none rmX4_dropFaulty domC argX4_dropFaulty (fun a => sp a.1 a.2)
theorem dX4_dropFaulty_0 : decode cX4_dropFaulty 0 = .ok (.iconst 0, 1) := by decide +kernel
theorem dX4_dropFaulty_1 : decode cX4_dropFaulty 1 = .ok (.istore_n 2, 1) := by decide +kernel
theorem dX4_dropFaulty_2 : decode cX4_dropFaulty 2 = .ok (.iload_n 2, 1) := by decide +kernel
theorem dX4_dropFaulty_3 : decode cX4_dropFaulty 3 = .ok (.bipush 7, 2) := by decide +kernel
theorem dX4_dropFaulty_5 : decode cX4_dropFaulty 5 = .ok (.if_icmp .ge 27, 3) := by decide +kernel
theorem dX4_dropFaulty_8 : decode cX4_dropFaulty 8 = .ok (.aload_n 0, 1) := by decide +kernel
theorem dX4_dropFaulty_9 : decode cX4_dropFaulty 9 = .ok (.aload_n 1, 1) := by decide +kernel
theorem dX4_dropFaulty_10 : decode cX4_dropFaulty 10 = .ok (.invokevirtual 72, 3) := by decide +kernel
theorem dX4_dropFaulty_13 : decode cX4_dropFaulty 13 = .ok (.istore_n 3, 1) := by decide +kernel
theorem dX4_dropFaulty_14 : decode cX4_dropFaulty 14 = .ok (.iload_n 3, 1) := by decide +kernel
theorem dX4_dropFaulty_15 : decode cX4_dropFaulty 15 = .ok (.bipush (-4), 2) := by decide +kernel
theorem dX4_dropFaulty_17 : decode cX4_dropFaulty 17 = .ok (.if_icmp .ne 4, 3) := by decide +kernel
theorem dX4_dropFaulty_20 : decode cX4_dropFaulty 20 = .ok (.return_, 1) := by decide +kernel
theorem dX4_dropFaulty_21 : decode cX4_dropFaulty 21 = .ok (.aload_n 0, 1) := by decide +kernel
theorem dX4_dropFaulty_22 : decode cX4_dropFaulty 22 = .ok (.iload_n 3, 1) := by decide +kernel
theorem dX4_dropFaulty_23 : decode cX4_dropFaulty 23 = .ok (.invokevirtual 76, 3) := by decide +kernel
theorem dX4_dropFaulty_26 : decode cX4_dropFaulty 26 = .ok (.iinc 2 1, 3) := by decide +kernel
theorem dX4_dropFaulty_29 : decode cX4_dropFaulty 29 = .ok (.goto (-27), 3) := by decide +kernel
theorem dX4_dropFaulty_32 : decode cX4_dropFaulty 32 = .ok (.return_, 1) := by decide +kernel
theorem ivX4_72 : IV RX4 72 yX4_lowestFaulty cX4_lowestFaulty 3 (some .int) 1 := ⟨(tb_mem (t_in3 (List.mem_of_getElem? (i := 49) (by decide +kernel))) (by decide +kernel)), (tb_mem (t_in3 (List.mem_of_getElem? (i := 50) (by decide +kernel))) (by decide +kernel)), (tb_mem (t_in3 (List.mem_of_getElem? (i := 51) (by decide +kernel))) (by decide +kernel)), (tb_mem (t_in1 (List.mem_of_getElem? (i := 6) (by decide +kernel))) (by decide +kernel)), (tb_mem (t_in3 (List.mem_of_getElem? (i := 52) (by decide +kernel))) (by decide +kernel)), ⟨by decide +kernel, by decide +kernel, by decide +kernel⟩⟩
theorem ivX4_76 : IV RX4 76 yX4_drop cX4_drop 2 none 1 := ⟨(tb_mem (t_in3 (List.mem_of_getElem? (i := 77) (by decide +kernel))) (by decide +kernel)), (tb_mem (t_in3 (List.mem_of_getElem? (i := 78) (by decide +kernel))) (by decide +kernel)), (tb_mem (t_in3 (List.mem_of_getElem? (i := 79) (by decide +kernel))) (by decide +kernel)), (tb_mem (t_in1 (List.mem_of_getElem? (i := 6) (by decide +kernel))) (by decide +kernel)), (tb_mem (t_in3 (List.mem_of_getElem? (i := 80) (by decide +kernel))) (by decide +kernel)), ⟨by decide +kernel, by decide +kernel, by decide +kernel⟩⟩
set_option maxHeartbeats 4000000 in
set_option maxRecDepth 20000 in
theorem sgX4_dropFaulty_0 {κ : Kx} {K : Kont} {M : Mem} (C : Cx κ RX4 cX4_dropFaulty 4 none rmX4_dropFaulty domC) (i0 : Int) (i1 : Int)
    (h :
    V κ 4 M 2 [some (.inr (18, i0)), some (.inr (14, i1)), some (.inl 0), none] [] K) : V κ 4 M 0 [some (.inr (18, i0)), some (.inr (14, i1)), none, none] [] K := by
  refine v_iconst C dX4_dropFaulty_0 (by decide) ?_
  refine v_istore_n C dX4_dropFaulty_1 (by decide) (Nat.le_of_ble_eq_true rfl) (lv' := [some (.inr (18, i0)), some (.inr (14, i1)), some (.inl 0), none]) rfl ?_
  refine v_weak [some (.inr (18, i0)), some (.inr (14, i1)), some (.inl 0), none] ⟨rfl, rfl, rfl, trivial⟩ ?_
  exact h
set_option maxHeartbeats 4000000 in
set_option maxRecDepth 20000 in
theorem sgX4_dropFaulty_2 {κ : Kx} {K : Kont} {M : Mem} (C : Cx κ RX4 cX4_dropFaulty 4 none rmX4_dropFaulty domC) (i0 : Int) (i1 : Int) (x2 : Int)
    (h :
    ((7 ≤ x2 →
      K none M) ∧
     (¬ (7 ≤ x2) →
      spX4_lowestFaulty i0 i1 M (rI (fun r10 M10 =>
      ((r10 ≠ (-4) →
        spX4_drop i0 r10 M10 (rV (fun M23 =>
        inR (x2 + 1) ∧
        V κ 4 M23 2 [some (.inr (18, i0)), some (.inr (14, i1)), some (.inl (x2 + 1)), none] [] K))) ∧
       (¬ (r10 ≠ (-4)) →
        K none M10))))))) : V κ 4 M 2 [some (.inr (18, i0)), some (.inr (14, i1)), some (.inl x2), none] [] K := by
  refine v_iload_n C dX4_dropFaulty_2 rfl ?_
  refine v_bipush C dX4_dropFaulty_3 (by decide) (by decide) ?_
  refine v_icmp C dX4_dropFaulty_5 (tgt := 32) (by decide) (P := 7 ≤ x2) rfl (fun c5 => ?_) (fun c5 => ?_)
  · replace h := h.1 c5
    exact v_vret C dX4_dropFaulty_32 h
  · replace h := h.2 c5
    refine v_aload_n C dX4_dropFaulty_8 rfl ?_
    refine v_aload_n C dX4_dropFaulty_9 rfl ?_
    refine v_invV C ctX4_lowestFaulty dX4_dropFaulty_10 ivX4_72 ⟨by decide, by decide, rfl, rfl⟩ ((i0, i1) : Int × Int) (As := [.inr (14, i1)]) rfl rfl rfl (by decide) rfl (st := []) rfl (Nat.le_of_ble_eq_true rfl) h (fun o M10 oM10 io10 h => ?_)
    obtain ⟨r10, rfl, h⟩ := rI_out h
    refine v_push ?_
    refine v_istore_n C dX4_dropFaulty_13 (by decide) (Nat.le_of_ble_eq_true rfl) (lv' := [some (.inr (18, i0)), some (.inr (14, i1)), some (.inl x2), some (.inl r10)]) rfl ?_
    refine v_iload_n C dX4_dropFaulty_14 rfl ?_
    refine v_bipush C dX4_dropFaulty_15 (by decide) (by decide) ?_
    refine v_icmp C dX4_dropFaulty_17 (tgt := 21) (by decide) (P := r10 ≠ (-4)) rfl (fun c17 => ?_) (fun c17 => ?_)
    · replace h := h.1 c17
      refine v_aload_n C dX4_dropFaulty_21 rfl ?_
      refine v_iload_n C dX4_dropFaulty_22 rfl ?_
      refine v_invV C ctX4_drop dX4_dropFaulty_23 ivX4_76 ⟨by decide, by decide, rfl, rfl⟩ ((i0, r10) : Int × Int) (As := [.inl r10]) rfl rfl rfl (by decide) rfl (st := []) rfl (Nat.le_of_ble_eq_true rfl) h (fun o M23 oM23 io23 h => ?_)
      obtain ⟨rfl, h⟩ := rV_out h
      refine v_push0 ?_
      refine v_iinc C dX4_dropFaulty_26 (by decide) rfl h.1 (lv' := [some (.inr (18, i0)), some (.inr (14, i1)), some (.inl (x2 + 1)), some (.inl r10)]) rfl ?_
      replace h := h.2
      refine v_goto C dX4_dropFaulty_29 (tgt := 2) (by decide) ?_
      refine v_weak [some (.inr (18, i0)), some (.inr (14, i1)), some (.inl (x2 + 1)), none] ⟨rfl, rfl, rfl, trivial⟩ ?_
      exact h
    · replace h := h.2 c17
      exact v_vret C dX4_dropFaulty_20 h
abbrev spX4_dropFaulty (pl tr : Int) (M : Mem) (K : Kont) : Prop := (WFf (cFilm M 1) ∧ PlK (cFilm M 1) (M 19 pl) (M 20 pl)) ∧
  ∀ M', AgP M M' pl → M' 19 pl = (dfN (cFilm M 1) (M 16 tr) 7 (M 19 pl) (M 20 pl)).1 → M' 20 pl = (dfN (cFilm M 1) (M 16 tr) 7 (M 19 pl) (M 20 pl)).2 → K none M'
theorem ctX4_dropFaulty : CtX4_dropFaulty spX4_dropFaulty := by
  refine ct_of (by decide) dmC (fun _ => Nat.le_of_ble_eq_true rfl) ?_
  intro κ a M K C oM h
  obtain ⟨pl, tr⟩ := a
  dsimp only [spX4_dropFaulty] at h
  obtain ⟨⟨hf, hP⟩, hk⟩ := h
  have hnP := hf.2.2.2.1
  simp only [cFilm] at hnP
  refine sgX4_dropFaulty_0 C pl tr ?_
  have loop : ∀ (n : Nat) (x : Int) (N : Mem), 0 ≤ x → x + n = 7 → AgP M N pl → PlK (cFilm M 1) (N 19 pl) (N 20 pl) → (∀ M', AgP M M' pl → M' 19 pl = (dfN (cFilm M 1) (M 16 tr) n (N 19 pl) (N 20 pl)).1 → M' 20 pl = (dfN (cFilm M 1) (M 16 tr) n (N 19 pl) (N 20 pl)).2 → K none M') →
      V κ 4 N 2 [some (.inr (18, pl)), some (.inr (14, tr)), some (.inl x), none] [] K := by
    intro n
    induction n with
    | zero =>
      intro x N h0 hn hA hP hk
      exact sgX4_dropFaulty_2 C pl tr x ⟨fun c => hk N hA rfl rfl, fun c => absurd (by omega) c⟩
    | succ n ih =>
      intro x N h0 hn hA hP hk
      have e := hA.film 1
      have e16 : N 16 = M 16 := by funext i; exact hA 16 i (by omega)
      have e5 : N 5 1 = M 5 1 := hA 5 1 (by omega)
      refine sgX4_dropFaulty_2 C pl tr x ⟨fun c => absurd c (by omega), fun c => ⟨⟨by rw [e]; exact hf, by rw [e]; exact hP⟩, ?_, ?_⟩⟩
      · intro c2
        rw [e, e16, e5] at c2 ⊢
        have hl := lowF_spec (cFilm M 1) (M 16 tr) (N 19 pl) (N 20 pl) (M 5 1 7).toNat 0
        have hk' := hk
        unfold dfN at hk'
        rw [show cFilm M 1 3 0 0 = M 5 1 7 from rfl] at hk'
        generalize lowF (cFilm M 1) (M 16 tr) (N 19 pl) (N 20 pl) (M 5 1 7).toNat 0 = w at *
        rw [if_neg c2] at hk'
        have hw : 0 ≤ w ∧ w < 7 := by omega
        refine ⟨hw, ?_⟩
        have w19 : up3 (up3 N 19 pl w (-4)) 20 pl w (-4) 19 pl = offP (N 19 pl) w := put_19 N pl w (-4) (-4)
        have w20 : up3 (up3 N 19 pl w (-4)) 20 pl w (-4) 20 pl = offP (N 20 pl) w := put_20 N pl w (-4) (-4)
        refine ⟨by omega, ih (x + 1) _ (by omega) (by omega) (hA.tr (AgP.up N pl w (-4) (-4))) ?_ ?_⟩
        · rw [w19, w20]
          exact PlK_off hP w
        · rw [w19, w20]
          exact hk'
      · intro c2
        rw [e, e16, e5] at c2
        refine hk N hA ?_ ?_
        · unfold dfN
          rw [show cFilm M 1 3 0 0 = M 5 1 7 from rfl, if_pos (by omega)]
        · unfold dfN
          rw [show cFilm M 1 3 0 0 = M 5 1 7 from rfl, if_pos (by omega)]
  exact loop 7 0 M (by omega) (by omega) AgP.rf hP hk
/-! ===== GapTellings$Plan.valueOn ===== -/
abbrev rmX4_valueOn : Room := { frames := 2, cells := 0, slots := 0, locals := 48 }
abbrev argX4_valueOn (a : Int × Int) : List PV := [.inr (18, a.1), .inr (14, a.2)]
abbrev CtX4_valueOn (sp : Int → Int → Mem → Kont → Prop) : Prop := Ct yX4_valueOn cX4_valueOn 4 (some .int) rmX4_valueOn domC argX4_valueOn (fun a => sp a.1 a.2)
theorem dX4_valueOn_0 : decode cX4_valueOn 0 = .ok (.iconst 0, 1) := by decide +kernel
theorem dX4_valueOn_1 : decode cX4_valueOn 1 = .ok (.istore_n 2, 1) := by decide +kernel
theorem dX4_valueOn_2 : decode cX4_valueOn 2 = .ok (.iconst 0, 1) := by decide +kernel
theorem dX4_valueOn_3 : decode cX4_valueOn 3 = .ok (.istore_n 3, 1) := by decide +kernel
theorem dX4_valueOn_4 : decode cX4_valueOn 4 = .ok (.iload_n 3, 1) := by decide +kernel
theorem dX4_valueOn_5 : decode cX4_valueOn 5 = .ok (.aload_n 0, 1) := by decide +kernel
theorem dX4_valueOn_6 : decode cX4_valueOn 6 = .ok (.getfield 18, 3) := by decide +kernel
theorem dX4_valueOn_9 : decode cX4_valueOn 9 = .ok (.getfield 34, 3) := by decide +kernel
theorem dX4_valueOn_12 : decode cX4_valueOn 12 = .ok (.if_icmp .ge 37, 3) := by decide +kernel
theorem dX4_valueOn_15 : decode cX4_valueOn 15 = .ok (.aload_n 0, 1) := by decide +kernel
theorem dX4_valueOn_16 : decode cX4_valueOn 16 = .ok (.iload_n 3, 1) := by decide +kernel
theorem dX4_valueOn_17 : decode cX4_valueOn 17 = .ok (.invokevirtual 40, 3) := by decide +kernel
theorem dX4_valueOn_20 : decode cX4_valueOn 20 = .ok (.ifCond .eq 23, 3) := by decide +kernel
theorem dX4_valueOn_23 : decode cX4_valueOn 23 = .ok (.iload_n 2, 1) := by decide +kernel
theorem dX4_valueOn_24 : decode cX4_valueOn 24 = .ok (.aload_n 1, 1) := by decide +kernel
theorem dX4_valueOn_25 : decode cX4_valueOn 25 = .ok (.iload_n 3, 1) := by decide +kernel
theorem dX4_valueOn_26 : decode cX4_valueOn 26 = .ok (.aload_n 0, 1) := by decide +kernel
theorem dX4_valueOn_27 : decode cX4_valueOn 27 = .ok (.getfield 9, 3) := by decide +kernel
theorem dX4_valueOn_30 : decode cX4_valueOn 30 = .ok (.iload_n 3, 1) := by decide +kernel
theorem dX4_valueOn_31 : decode cX4_valueOn 31 = .ok (.iaload, 1) := by decide +kernel
theorem dX4_valueOn_32 : decode cX4_valueOn 32 = .ok (.aload_n 0, 1) := by decide +kernel
theorem dX4_valueOn_33 : decode cX4_valueOn 33 = .ok (.getfield 15, 3) := by decide +kernel
theorem dX4_valueOn_36 : decode cX4_valueOn 36 = .ok (.iload_n 3, 1) := by decide +kernel
theorem dX4_valueOn_37 : decode cX4_valueOn 37 = .ok (.iaload, 1) := by decide +kernel
theorem dX4_valueOn_38 : decode cX4_valueOn 38 = .ok (.invokevirtual 84, 3) := by decide +kernel
theorem dX4_valueOn_41 : decode cX4_valueOn 41 = .ok (.iadd, 1) := by decide +kernel
theorem dX4_valueOn_42 : decode cX4_valueOn 42 = .ok (.istore_n 2, 1) := by decide +kernel
theorem dX4_valueOn_43 : decode cX4_valueOn 43 = .ok (.iinc 3 1, 3) := by decide +kernel
theorem dX4_valueOn_46 : decode cX4_valueOn 46 = .ok (.goto (-42), 3) := by decide +kernel
theorem dX4_valueOn_49 : decode cX4_valueOn 49 = .ok (.iload_n 2, 1) := by decide +kernel
theorem dX4_valueOn_50 : decode cX4_valueOn 50 = .ok (.ireturn, 1) := by decide +kernel
theorem ivX4_84 : IV RX4 84 yX6_gainOf cX6_gainOf 8 (some .int) 3 := ⟨(tb_mem (t_in3 (List.mem_of_getElem? (i := 151) (by decide +kernel))) (by decide +kernel)), (tb_mem (t_in3 (List.mem_of_getElem? (i := 120) (by decide +kernel))) (by decide +kernel)), (tb_mem (t_in3 (List.mem_of_getElem? (i := 121) (by decide +kernel))) (by decide +kernel)), (tb_mem (t_in1 (List.mem_of_getElem? (i := 5) (by decide +kernel))) (by decide +kernel)), (tb_mem (t_in3 (List.mem_of_getElem? (i := 122) (by decide +kernel))) (by decide +kernel)), ⟨by decide +kernel, by decide +kernel, by decide +kernel⟩⟩
set_option maxHeartbeats 4000000 in
set_option maxRecDepth 20000 in
theorem sgX4_valueOn_0 {κ : Kx} {K : Kont} {M : Mem} (C : Cx κ RX4 cX4_valueOn 4 (some .int) rmX4_valueOn domC) (i0 : Int) (i1 : Int)
    (h :
    V κ 4 M 4 [some (.inr (18, i0)), some (.inr (14, i1)), some (.inl 0), some (.inl 0)] [] K) : V κ 4 M 0 [some (.inr (18, i0)), some (.inr (14, i1)), none, none] [] K := by
  refine v_iconst C dX4_valueOn_0 (by decide) ?_
  refine v_istore_n C dX4_valueOn_1 (by decide) (Nat.le_of_ble_eq_true rfl) (lv' := [some (.inr (18, i0)), some (.inr (14, i1)), some (.inl 0), none]) rfl ?_
  refine v_iconst C dX4_valueOn_2 (by decide) ?_
  refine v_istore_n C dX4_valueOn_3 (by decide) (Nat.le_of_ble_eq_true rfl) (lv' := [some (.inr (18, i0)), some (.inr (14, i1)), some (.inl 0), some (.inl 0)]) rfl ?_
  refine v_weak [some (.inr (18, i0)), some (.inr (14, i1)), some (.inl 0), some (.inl 0)] ⟨rfl, rfl, rfl, rfl, trivial⟩ ?_
  exact h
set_option maxHeartbeats 4000000 in
set_option maxRecDepth 20000 in
theorem sgX4_valueOn_4 {κ : Kx} {K : Kont} {M : Mem} (C : Cx κ RX4 cX4_valueOn 4 (some .int) rmX4_valueOn domC) (i0 : Int) (i1 : Int) (x2 : Int) (x3 : Int)
    (h :
    (((M 5 1 7) ≤ x3 →
      K (some x2) M) ∧
     (¬ ((M 5 1 7) ≤ x3) →
      spX4_has i0 x3 M (rI (fun r17 M17 =>
      ((r17 = 0 →
        inR (x3 + 1) ∧
        V κ 4 M17 4 [some (.inr (18, i0)), some (.inr (14, i1)), some (.inl x2), some (.inl (x3 + 1))] [] K) ∧
       (¬ (r17 = 0) →
        (0 ≤ x3 ∧ x3 < 7) ∧
        (0 ≤ x3 ∧ x3 < 7) ∧
        spX6_gainOf i1 x3 (M17 19 i0 x3) (M17 20 i0 x3) M17 (rI (fun r38 M38 =>
        inR (x2 + r38) ∧
        ∀ y2_42 : Int, y2_42 = x2 + r38 →
        inR (x3 + 1) ∧
        V κ 4 M38 4 [some (.inr (18, i0)), some (.inr (14, i1)), some (.inl y2_42), some (.inl (x3 + 1))] [] K))))))))) : V κ 4 M 4 [some (.inr (18, i0)), some (.inr (14, i1)), some (.inl x2), some (.inl x3)] [] K := by
  refine v_iload_n C dX4_valueOn_4 rfl ?_
  refine v_aload_n C dX4_valueOn_5 rfl ?_
  refine v_get C dX4_valueOn_6 flX4_18 rfl (by decide) (by decide) (w := .inr (5, 1)) rfl ?_
  refine v_get C dX4_valueOn_9 flX4_34 rfl (by decide) (by decide) (w := .inl (M 5 1 7)) rfl ?_
  refine v_icmp C dX4_valueOn_12 (tgt := 49) (by decide) (P := (M 5 1 7) ≤ x3) rfl (fun c12 => ?_) (fun c12 => ?_)
  · replace h := h.1 c12
    refine v_iload_n C dX4_valueOn_49 rfl ?_
    exact v_iret C dX4_valueOn_50 h
  · replace h := h.2 c12
    refine v_aload_n C dX4_valueOn_15 rfl ?_
    refine v_iload_n C dX4_valueOn_16 rfl ?_
    refine v_invV C ctX4_has dX4_valueOn_17 ivX4_40 ⟨by decide, by decide, rfl, rfl⟩ ((i0, x3) : Int × Int) (As := [.inl x3]) rfl rfl rfl (by decide) rfl (st := []) rfl (Nat.le_of_ble_eq_true rfl) h (fun o M17 oM17 io17 h => ?_)
    obtain ⟨r17, rfl, h⟩ := rI_out h
    refine v_push ?_
    refine v_if C dX4_valueOn_20 (tgt := 43) (by decide) (P := r17 = 0) rfl (fun c20 => ?_) (fun c20 => ?_)
    · replace h := h.1 c20
      refine v_iinc C dX4_valueOn_43 (by decide) rfl h.1 (lv' := [some (.inr (18, i0)), some (.inr (14, i1)), some (.inl x2), some (.inl (x3 + 1))]) rfl ?_
      replace h := h.2
      refine v_goto C dX4_valueOn_46 (tgt := 4) (by decide) ?_
      refine v_weak [some (.inr (18, i0)), some (.inr (14, i1)), some (.inl x2), some (.inl (x3 + 1))] ⟨rfl, rfl, rfl, rfl, trivial⟩ ?_
      exact h
    · replace h := h.2 c20
      refine v_iload_n C dX4_valueOn_23 rfl ?_
      refine v_aload_n C dX4_valueOn_24 rfl ?_
      refine v_iload_n C dX4_valueOn_25 rfl ?_
      refine v_aload_n C dX4_valueOn_26 rfl ?_
      refine v_get C dX4_valueOn_27 flX4_9 rfl (by decide) (by decide) (w := .inr (19, i0)) rfl ?_
      refine v_iload_n C dX4_valueOn_30 rfl ?_
      refine v_iald C dX4_valueOn_31 rfl h.1.1 h.1.2 ?_
      replace h := h.2
      refine v_aload_n C dX4_valueOn_32 rfl ?_
      refine v_get C dX4_valueOn_33 flX4_15 rfl (by decide) (by decide) (w := .inr (20, i0)) rfl ?_
      refine v_iload_n C dX4_valueOn_36 rfl ?_
      refine v_iald C dX4_valueOn_37 rfl h.1.1 h.1.2 ?_
      replace h := h.2
      refine v_invV C ctX6_gainOf dX4_valueOn_38 ivX4_84 ⟨by decide, by decide, rfl, rfl⟩ ((i1, x3, M17 19 i0 x3, M17 20 i0 x3) : Int × Int × Int × Int) (As := [.inl x3, .inl (M17 19 i0 x3), .inl (M17 20 i0 x3)]) rfl rfl rfl (by decide) rfl (st := [.inl x2]) rfl (Nat.le_of_ble_eq_true rfl) h (fun o M38 oM38 io38 h => ?_)
      obtain ⟨r38, rfl, h⟩ := rI_out h
      refine v_push ?_
      refine v_iadd C dX4_valueOn_41 h.1 ?_
      replace h := h.2
      refine v_nm (fun y2_42 ey2_42 => ?_)
      replace h := h y2_42 ey2_42
      refine v_istore_n C dX4_valueOn_42 (by decide) (Nat.le_of_ble_eq_true rfl) (lv' := [some (.inr (18, i0)), some (.inr (14, i1)), some (.inl y2_42), some (.inl x3)]) rfl ?_
      refine v_iinc C dX4_valueOn_43 (by decide) rfl h.1 (lv' := [some (.inr (18, i0)), some (.inr (14, i1)), some (.inl y2_42), some (.inl (x3 + 1))]) rfl ?_
      replace h := h.2
      refine v_goto C dX4_valueOn_46 (tgt := 4) (by decide) ?_
      refine v_weak [some (.inr (18, i0)), some (.inr (14, i1)), some (.inl y2_42), some (.inl (x3 + 1))] ⟨rfl, rfl, rfl, rfl, trivial⟩ ?_
      exact h
abbrev spX4_valueOn (pl tr : Int) (M : Mem) (K : Kont) : Prop := (WFf (cFilm M 1) ∧ TrB M tr ∧ PlK (cFilm M 1) (M 19 pl) (M 20 pl)) ∧ K (some (vaN (cFilm M 1) (M 17 tr) (M 19 pl) (M 20 pl) (M 5 1 7).toNat)) M
theorem vaN_rng {M : Mem} {pl tr : Int} (hf : WFf (cFilm M 1)) (hb : TrB M tr) (hP : PlK (cFilm M 1) (M 19 pl) (M 20 pl)) (n : Nat) (hn : n ≤ 7) : -2000 * n ≤ vaN (cFilm M 1) (M 17 tr) (M 19 pl) (M 20 pl) n ∧ vaN (cFilm M 1) (M 17 tr) (M 19 pl) (M 20 pl) n ≤ 2000 * n := by
  unfold vaN
  refine sum_abs n (fun t h0 h1 => ?_)
  split
  · omega
  · rename_i hv
    have a := hP.at h0 (by omega) hv
    have b := wf_pv hf h0 a.1 a.2.1.1 a.2.1.2
    simp only [cFilm] at a b
    exact gain_rng hf hb h0 a.1 a.2.1.1 a.2.1.2 a.2.2.1 (by omega)
theorem ctX4_valueOn : CtX4_valueOn spX4_valueOn := by
  refine ct_of (by decide) dmC (fun _ => Nat.le_of_ble_eq_true rfl) ?_
  intro κ a M K C oM h
  obtain ⟨pl, tr⟩ := a
  dsimp only [spX4_valueOn] at h
  obtain ⟨⟨hf, hb, hP⟩, hk⟩ := h
  have hnP := hf.2.2.2.1
  simp only [cFilm] at hnP
  refine sgX4_valueOn_0 C pl tr ?_
  have loop : ∀ (n : Nat) (p o : Int), 0 ≤ p → p + n = M 5 1 7 → o = vaN (cFilm M 1) (M 17 tr) (M 19 pl) (M 20 pl) p.toNat →
      V κ 4 M 4 [some (.inr (18, pl)), some (.inr (14, tr)), some (.inl o), some (.inl p)] [] K := by
    intro n
    induction n with
    | zero =>
      intro p o h0 hn ho
      refine sgX4_valueOn_4 C pl tr o p ⟨fun c => ?_, fun c => absurd (by omega) c⟩
      have e : p = M 5 1 7 := by omega
      rw [ho, e]
      exact hk
    | succ n ih =>
      intro p o h0 hn ho
      have hr := vaN_rng hf hb hP p.toNat (by omega)
      have hs : vaN (cFilm M 1) (M 17 tr) (M 19 pl) (M 20 pl) (p + 1).toNat = vaN (cFilm M 1) (M 17 tr) (M 19 pl) (M 20 pl) p.toNat + (if M 19 pl p = -4 then 0 else gainW (cFilm M 1) (M 17 tr) p (M 19 pl p) (M 20 pl p)) := sumN_s _ h0
      refine sgX4_valueOn_4 C pl tr o p ⟨fun c => absurd c (by omega), fun c => ⟨⟨h0, by omega⟩, fun c2 => ⟨by omega, ?_⟩, fun c2 => ⟨by omega, by omega, ?_⟩⟩⟩
      · refine ih (p + 1) o (by omega) (by omega) ?_
        rw [hs, if_pos (if01 c2), ho]
        omega
      · have c3 := if01n c2
        have a := hP.at h0 (by omega) c3
        have b := wf_pv hf h0 a.1 a.2.1.1 a.2.1.2
        simp only [cFilm] at a b
        have hg := gain_rng hf hb h0 a.1 a.2.1.1 a.2.1.2 a.2.2.1 (by omega)
        refine ⟨⟨hf, hb, ⟨h0, by omega⟩, a.2.1, by omega, by omega⟩, by omega, fun y ey => ⟨by omega, ?_⟩⟩
        refine ih (p + 1) y (by omega) (by omega) ?_
        rw [hs, if_neg c3, ey, ho]
  exact loop (M 5 1 7).toNat 0 0 (by omega) (by omega) rfl
/-! ===== GapTellings$Plan.ticksTold ===== -/
abbrev rmX4_ticksTold : Room := { frames := 1, cells := 0, slots := 0, locals := 21 }
abbrev argX4_ticksTold (a : Int × Int × Int) : List PV := [.inr (18, a.1), .inl a.2.1, .inl a.2.2]
abbrev CtX4_ticksTold (sp : Int → Int → Int → Mem → Kont → Prop) : Prop := Ct yX4_ticksTold cX4_ticksTold 5 (some .int) rmX4_ticksTold domC argX4_ticksTold (fun a => sp a.1 a.2.1 a.2.2)
theorem dX4_ticksTold_0 : decode cX4_ticksTold 0 = .ok (.iconst 0, 1) := by decide +kernel
theorem dX4_ticksTold_1 : decode cX4_ticksTold 1 = .ok (.istore_n 3, 1) := by decide +kernel
theorem dX4_ticksTold_2 : decode cX4_ticksTold 2 = .ok (.iconst 0, 1) := by decide +kernel
theorem dX4_ticksTold_3 : decode cX4_ticksTold 3 = .ok (.istore 4, 2) := by decide +kernel
theorem dX4_ticksTold_5 : decode cX4_ticksTold 5 = .ok (.iload 4, 2) := by decide +kernel
theorem dX4_ticksTold_7 : decode cX4_ticksTold 7 = .ok (.aload_n 0, 1) := by decide +kernel
theorem dX4_ticksTold_8 : decode cX4_ticksTold 8 = .ok (.getfield 18, 3) := by decide +kernel
theorem dX4_ticksTold_11 : decode cX4_ticksTold 11 = .ok (.getfield 34, 3) := by decide +kernel
theorem dX4_ticksTold_14 : decode cX4_ticksTold 14 = .ok (.if_icmp .ge 47, 3) := by decide +kernel
theorem dX4_ticksTold_17 : decode cX4_ticksTold 17 = .ok (.aload_n 0, 1) := by decide +kernel
theorem dX4_ticksTold_18 : decode cX4_ticksTold 18 = .ok (.iload 4, 2) := by decide +kernel
theorem dX4_ticksTold_20 : decode cX4_ticksTold 20 = .ok (.invokevirtual 40, 3) := by decide +kernel
theorem dX4_ticksTold_23 : decode cX4_ticksTold 23 = .ok (.ifCond .eq 32, 3) := by decide +kernel
theorem dX4_ticksTold_26 : decode cX4_ticksTold 26 = .ok (.iload_n 3, 1) := by decide +kernel
theorem dX4_ticksTold_27 : decode cX4_ticksTold 27 = .ok (.iconst 0, 1) := by decide +kernel
theorem dX4_ticksTold_28 : decode cX4_ticksTold 28 = .ok (.aload_n 0, 1) := by decide +kernel
theorem dX4_ticksTold_29 : decode cX4_ticksTold 29 = .ok (.iload 4, 2) := by decide +kernel
theorem dX4_ticksTold_31 : decode cX4_ticksTold 31 = .ok (.invokevirtual 65, 3) := by decide +kernel
theorem dX4_ticksTold_34 : decode cX4_ticksTold 34 = .ok (.iload_n 2, 1) := by decide +kernel
theorem dX4_ticksTold_35 : decode cX4_ticksTold 35 = .ok (.invokestatic 91, 3) := by decide +kernel
theorem dX4_ticksTold_38 : decode cX4_ticksTold 38 = .ok (.aload_n 0, 1) := by decide +kernel
theorem dX4_ticksTold_39 : decode cX4_ticksTold 39 = .ok (.getfield 15, 3) := by decide +kernel
theorem dX4_ticksTold_42 : decode cX4_ticksTold 42 = .ok (.iload 4, 2) := by decide +kernel
theorem dX4_ticksTold_44 : decode cX4_ticksTold 44 = .ok (.iaload, 1) := by decide +kernel
theorem dX4_ticksTold_45 : decode cX4_ticksTold 45 = .ok (.iload_n 1, 1) := by decide +kernel
theorem dX4_ticksTold_46 : decode cX4_ticksTold 46 = .ok (.invokestatic 96, 3) := by decide +kernel
theorem dX4_ticksTold_49 : decode cX4_ticksTold 49 = .ok (.isub, 1) := by decide +kernel
theorem dX4_ticksTold_50 : decode cX4_ticksTold 50 = .ok (.invokestatic 96, 3) := by decide +kernel
theorem dX4_ticksTold_53 : decode cX4_ticksTold 53 = .ok (.iadd, 1) := by decide +kernel
theorem dX4_ticksTold_54 : decode cX4_ticksTold 54 = .ok (.istore_n 3, 1) := by decide +kernel
theorem dX4_ticksTold_55 : decode cX4_ticksTold 55 = .ok (.iinc 4 1, 3) := by decide +kernel
theorem dX4_ticksTold_58 : decode cX4_ticksTold 58 = .ok (.goto (-53), 3) := by decide +kernel
theorem dX4_ticksTold_61 : decode cX4_ticksTold 61 = .ok (.iload_n 3, 1) := by decide +kernel
theorem dX4_ticksTold_62 : decode cX4_ticksTold 62 = .ok (.ireturn, 1) := by decide +kernel
theorem ivX4_91 : IMin RX4 91 := ⟨(tb_mem (t_in4 (List.mem_of_getElem? (i := 16) (by decide +kernel))) (by decide +kernel)), (tb_mem (t_in2 (List.mem_of_getElem? (i := 32) (by decide +kernel))) (by decide +kernel)), (tb_mem (t_in1 (List.mem_of_getElem? (i := 11) (by decide +kernel))) (by decide +kernel)), (tb_mem (t_in2 (List.mem_of_getElem? (i := 33) (by decide +kernel))) (by decide +kernel))⟩
theorem ivX4_96 : IMax RX4 96 := ⟨(tb_mem (t_in4 (List.mem_of_getElem? (i := 17) (by decide +kernel))) (by decide +kernel)), (tb_mem (t_in2 (List.mem_of_getElem? (i := 117) (by decide +kernel))) (by decide +kernel)), (tb_mem (t_in1 (List.mem_of_getElem? (i := 11) (by decide +kernel))) (by decide +kernel)), (tb_mem (t_in2 (List.mem_of_getElem? (i := 118) (by decide +kernel))) (by decide +kernel))⟩
set_option maxHeartbeats 4000000 in
set_option maxRecDepth 20000 in
theorem sgX4_ticksTold_0 {κ : Kx} {K : Kont} {M : Mem} (C : Cx κ RX4 cX4_ticksTold 5 (some .int) rmX4_ticksTold domC) (i0 : Int) (x1 : Int) (x2 : Int)
    (h :
    V κ 5 M 5 [some (.inr (18, i0)), some (.inl x1), some (.inl x2), some (.inl 0), some (.inl 0)] [] K) : V κ 5 M 0 [some (.inr (18, i0)), some (.inl x1), some (.inl x2), none, none] [] K := by
  refine v_iconst C dX4_ticksTold_0 (by decide) ?_
  refine v_istore_n C dX4_ticksTold_1 (by decide) (Nat.le_of_ble_eq_true rfl) (lv' := [some (.inr (18, i0)), some (.inl x1), some (.inl x2), some (.inl 0), none]) rfl ?_
  refine v_iconst C dX4_ticksTold_2 (by decide) ?_
  refine v_istore C dX4_ticksTold_3 (by decide) (Nat.le_of_ble_eq_true rfl) (lv' := [some (.inr (18, i0)), some (.inl x1), some (.inl x2), some (.inl 0), some (.inl 0)]) rfl ?_
  refine v_weak [some (.inr (18, i0)), some (.inl x1), some (.inl x2), some (.inl 0), some (.inl 0)] ⟨rfl, rfl, rfl, rfl, rfl, trivial⟩ ?_
  exact h
set_option maxHeartbeats 4000000 in
set_option maxRecDepth 20000 in
theorem sgX4_ticksTold_5 {κ : Kx} {K : Kont} {M : Mem} (C : Cx κ RX4 cX4_ticksTold 5 (some .int) rmX4_ticksTold domC) (i0 : Int) (x1 : Int) (x2 : Int) (x3 : Int) (x4 : Int)
    (h :
    (((M 5 1 7) ≤ x4 →
      K (some x3) M) ∧
     (¬ ((M 5 1 7) ≤ x4) →
      spX4_has i0 x4 M (rI (fun r20 M20 =>
      ((r20 = 0 →
        inR (x4 + 1) ∧
        V κ 5 M20 5 [some (.inr (18, i0)), some (.inl x1), some (.inl x2), some (.inl x3), some (.inl (x4 + 1))] [] K) ∧
       (¬ (r20 = 0) →
        spX4_endOf i0 x4 M20 (rI (fun r31 M31 =>
        (0 ≤ x4 ∧ x4 < 7) ∧
        inR ((min r31 x2) - (max (M31 20 i0 x4) x1)) ∧
        inR (x3 + (max 0 ((min r31 x2) - (max (M31 20 i0 x4) x1)))) ∧
        ∀ y3_54 : Int, y3_54 = x3 + (max 0 ((min r31 x2) - (max (M31 20 i0 x4) x1))) →
        inR (x4 + 1) ∧
        V κ 5 M31 5 [some (.inr (18, i0)), some (.inl x1), some (.inl x2), some (.inl y3_54), some (.inl (x4 + 1))] [] K))))))))) : V κ 5 M 5 [some (.inr (18, i0)), some (.inl x1), some (.inl x2), some (.inl x3), some (.inl x4)] [] K := by
  refine v_iload C dX4_ticksTold_5 rfl ?_
  refine v_aload_n C dX4_ticksTold_7 rfl ?_
  refine v_get C dX4_ticksTold_8 flX4_18 rfl (by decide) (by decide) (w := .inr (5, 1)) rfl ?_
  refine v_get C dX4_ticksTold_11 flX4_34 rfl (by decide) (by decide) (w := .inl (M 5 1 7)) rfl ?_
  refine v_icmp C dX4_ticksTold_14 (tgt := 61) (by decide) (P := (M 5 1 7) ≤ x4) rfl (fun c14 => ?_) (fun c14 => ?_)
  · replace h := h.1 c14
    refine v_iload_n C dX4_ticksTold_61 rfl ?_
    exact v_iret C dX4_ticksTold_62 h
  · replace h := h.2 c14
    refine v_aload_n C dX4_ticksTold_17 rfl ?_
    refine v_iload C dX4_ticksTold_18 rfl ?_
    refine v_invV C ctX4_has dX4_ticksTold_20 ivX4_40 ⟨by decide, by decide, rfl, rfl⟩ ((i0, x4) : Int × Int) (As := [.inl x4]) rfl rfl rfl (by decide) rfl (st := []) rfl (Nat.le_of_ble_eq_true rfl) h (fun o M20 oM20 io20 h => ?_)
    obtain ⟨r20, rfl, h⟩ := rI_out h
    refine v_push ?_
    refine v_if C dX4_ticksTold_23 (tgt := 55) (by decide) (P := r20 = 0) rfl (fun c23 => ?_) (fun c23 => ?_)
    · replace h := h.1 c23
      refine v_iinc C dX4_ticksTold_55 (by decide) rfl h.1 (lv' := [some (.inr (18, i0)), some (.inl x1), some (.inl x2), some (.inl x3), some (.inl (x4 + 1))]) rfl ?_
      replace h := h.2
      refine v_goto C dX4_ticksTold_58 (tgt := 5) (by decide) ?_
      refine v_weak [some (.inr (18, i0)), some (.inl x1), some (.inl x2), some (.inl x3), some (.inl (x4 + 1))] ⟨rfl, rfl, rfl, rfl, rfl, trivial⟩ ?_
      exact h
    · replace h := h.2 c23
      refine v_iload_n C dX4_ticksTold_26 rfl ?_
      refine v_iconst C dX4_ticksTold_27 (by decide) ?_
      refine v_aload_n C dX4_ticksTold_28 rfl ?_
      refine v_iload C dX4_ticksTold_29 rfl ?_
      refine v_invV C ctX4_endOf dX4_ticksTold_31 ivX4_65 ⟨by decide, by decide, rfl, rfl⟩ ((i0, x4) : Int × Int) (As := [.inl x4]) rfl rfl rfl (by decide) rfl (st := [.inl 0, .inl x3]) rfl (Nat.le_of_ble_eq_true rfl) h (fun o M31 oM31 io31 h => ?_)
      obtain ⟨r31, rfl, h⟩ := rI_out h
      refine v_push ?_
      refine v_iload_n C dX4_ticksTold_34 rfl ?_
      refine v_min C dX4_ticksTold_35 ivX4_91 (Nat.le_of_ble_eq_true rfl) ⟨by decide, by decide⟩ ?_
      refine v_aload_n C dX4_ticksTold_38 rfl ?_
      refine v_get C dX4_ticksTold_39 flX4_15 rfl (by decide) (by decide) (w := .inr (20, i0)) rfl ?_
      refine v_iload C dX4_ticksTold_42 rfl ?_
      refine v_iald C dX4_ticksTold_44 rfl h.1.1 h.1.2 ?_
      replace h := h.2
      refine v_iload_n C dX4_ticksTold_45 rfl ?_
      refine v_max C dX4_ticksTold_46 ivX4_96 (Nat.le_of_ble_eq_true rfl) ⟨by decide, by decide⟩ ?_
      refine v_isub C dX4_ticksTold_49 h.1 ?_
      replace h := h.2
      refine v_max C dX4_ticksTold_50 ivX4_96 (Nat.le_of_ble_eq_true rfl) ⟨by decide, by decide⟩ ?_
      refine v_iadd C dX4_ticksTold_53 h.1 ?_
      replace h := h.2
      refine v_nm (fun y3_54 ey3_54 => ?_)
      replace h := h y3_54 ey3_54
      refine v_istore_n C dX4_ticksTold_54 (by decide) (Nat.le_of_ble_eq_true rfl) (lv' := [some (.inr (18, i0)), some (.inl x1), some (.inl x2), some (.inl y3_54), some (.inl x4)]) rfl ?_
      refine v_iinc C dX4_ticksTold_55 (by decide) rfl h.1 (lv' := [some (.inr (18, i0)), some (.inl x1), some (.inl x2), some (.inl y3_54), some (.inl (x4 + 1))]) rfl ?_
      replace h := h.2
      refine v_goto C dX4_ticksTold_58 (tgt := 5) (by decide) ?_
      refine v_weak [some (.inr (18, i0)), some (.inl x1), some (.inl x2), some (.inl y3_54), some (.inl (x4 + 1))] ⟨rfl, rfl, rfl, rfl, rfl, trivial⟩ ?_
      exact h
abbrev spX4_ticksTold (pl a b : Int) (M : Mem) (K : Kont) : Prop := (WFf (cFilm M 1) ∧ PlK (cFilm M 1) (M 19 pl) (M 20 pl) ∧ (0 ≤ a ∧ a ≤ 1000 ∧ 0 ≤ b ∧ b ≤ 1000)) ∧ K (some (tkN (cFilm M 1) (M 19 pl) (M 20 pl) a b (M 5 1 7).toNat)) M
theorem tkN_rng {F : Film} {ver sta : Int → Int} (hf : WFf F) (hP : PlK F ver sta) (a b : Int) (n : Nat) (hn : n ≤ 7) : -1000 * n ≤ tkN F ver sta a b n ∧ tkN F ver sta a b n ≤ 1000 * n := by
  unfold tkN
  refine sum_abs n (fun t h0 h1 => ?_)
  split
  · omega
  · rename_i hv
    have c := hP.at h0 (by omega) hv
    have d := wf_pv hf h0 c.1 c.2.1.1 c.2.1.2
    omega
theorem ctX4_ticksTold : CtX4_ticksTold spX4_ticksTold := by
  refine ct_of (by decide) dmC (fun _ => Nat.le_of_ble_eq_true rfl) ?_
  intro κ a M K C oM h
  obtain ⟨pl, a, b⟩ := a
  dsimp only [spX4_ticksTold] at h
  obtain ⟨⟨hf, hP, hab⟩, hk⟩ := h
  have hnP := hf.2.2.2.1
  simp only [cFilm] at hnP
  refine sgX4_ticksTold_0 C pl a b ?_
  have loop : ∀ (n : Nat) (p o : Int), 0 ≤ p → p + n = M 5 1 7 → o = tkN (cFilm M 1) (M 19 pl) (M 20 pl) a b p.toNat →
      V κ 5 M 5 [some (.inr (18, pl)), some (.inl a), some (.inl b), some (.inl o), some (.inl p)] [] K := by
    intro n
    induction n with
    | zero =>
      intro p o h0 hn ho
      refine sgX4_ticksTold_5 C pl a b o p ⟨fun c => ?_, fun c => absurd (by omega) c⟩
      have e : p = M 5 1 7 := by omega
      rw [ho, e]
      exact hk
    | succ n ih =>
      intro p o h0 hn ho
      have hr := tkN_rng hf hP a b p.toNat (by omega)
      have hs : tkN (cFilm M 1) (M 19 pl) (M 20 pl) a b (p + 1).toNat = tkN (cFilm M 1) (M 19 pl) (M 20 pl) a b p.toNat + (if M 19 pl p = -4 then 0 else max 0 (min (M 20 pl p + M 12 (7 * 1 + p) (M 19 pl p)) b - max (M 20 pl p) a)) := sumN_s _ h0
      refine sgX4_ticksTold_5 C pl a b o p ⟨fun c => absurd c (by omega), fun c => ⟨⟨h0, by omega⟩, fun c2 => ⟨by omega, ?_⟩, fun c2 => ?_⟩⟩
      · refine ih (p + 1) o (by omega) (by omega) ?_
        rw [hs, if_pos (if01 c2), ho]
        omega
      · have c3 := if01n c2
        have he := end_pre hf hP h0 (by omega) c3
        refine ⟨⟨by omega, he.1, he.2.2.2⟩, by omega, by omega, by omega, fun y ey => ⟨by omega, ?_⟩⟩
        refine ih (p + 1) y (by omega) (by omega) ?_
        rw [hs, if_neg c3, ey, ho]
  exact loop (M 5 1 7).toNat 0 0 (by omega) (by omega) rfl
/-! ===== GapTellings$Plan.tellsAt ===== -/
abbrev rmX4_tellsAt : Room := { frames := 2, cells := 0, slots := 0, locals := 45 }
abbrev argX4_tellsAt (a : Int × Int) : List PV := [.inr (18, a.1), .inl a.2]
abbrev CtX4_tellsAt (sp : Int → Int → Mem → Kont → Prop) : Prop := Ct yX4_tellsAt cX4_tellsAt 2 (some .boolean) rmX4_tellsAt domC argX4_tellsAt (fun a => sp a.1 a.2)
theorem dX4_tellsAt_0 : decode cX4_tellsAt 0 = .ok (.aload_n 0, 1) := by decide +kernel
theorem dX4_tellsAt_1 : decode cX4_tellsAt 1 = .ok (.iload_n 1, 1) := by decide +kernel
theorem dX4_tellsAt_2 : decode cX4_tellsAt 2 = .ok (.iload_n 1, 1) := by decide +kernel
theorem dX4_tellsAt_3 : decode cX4_tellsAt 3 = .ok (.iconst 1, 1) := by decide +kernel
theorem dX4_tellsAt_4 : decode cX4_tellsAt 4 = .ok (.iadd, 1) := by decide +kernel
theorem dX4_tellsAt_5 : decode cX4_tellsAt 5 = .ok (.invokevirtual 87, 3) := by decide +kernel
theorem dX4_tellsAt_8 : decode cX4_tellsAt 8 = .ok (.ifCond .le 7, 3) := by decide +kernel
theorem dX4_tellsAt_11 : decode cX4_tellsAt 11 = .ok (.iconst 1, 1) := by decide +kernel
theorem dX4_tellsAt_12 : decode cX4_tellsAt 12 = .ok (.goto 4, 3) := by decide +kernel
theorem dX4_tellsAt_15 : decode cX4_tellsAt 15 = .ok (.iconst 0, 1) := by decide +kernel
theorem dX4_tellsAt_16 : decode cX4_tellsAt 16 = .ok (.ireturn, 1) := by decide +kernel
theorem ivX4_87 : IV RX4 87 yX4_ticksTold cX4_ticksTold 5 (some .int) 2 := ⟨(tb_mem (t_in4 (List.mem_of_getElem? (i := 12) (by decide +kernel))) (by decide +kernel)), (tb_mem (t_in4 (List.mem_of_getElem? (i := 13) (by decide +kernel))) (by decide +kernel)), (tb_mem (t_in4 (List.mem_of_getElem? (i := 14) (by decide +kernel))) (by decide +kernel)), (tb_mem (t_in1 (List.mem_of_getElem? (i := 6) (by decide +kernel))) (by decide +kernel)), (tb_mem (t_in4 (List.mem_of_getElem? (i := 15) (by decide +kernel))) (by decide +kernel)), ⟨by decide +kernel, by decide +kernel, by decide +kernel⟩⟩
set_option maxHeartbeats 4000000 in
set_option maxRecDepth 20000 in
theorem sgX4_tellsAt_0 {κ : Kx} {K : Kont} {M : Mem} (C : Cx κ RX4 cX4_tellsAt 2 (some .boolean) rmX4_tellsAt domC) (i0 : Int) (x1 : Int)
    (h :
    inR (x1 + 1) ∧
    spX4_ticksTold i0 x1 (x1 + 1) M (rI (fun r5 M5 =>
    ((r5 ≤ 0 →
      K (some 0) M5) ∧
     (¬ (r5 ≤ 0) →
      K (some 1) M5))))) : V κ 2 M 0 [some (.inr (18, i0)), some (.inl x1)] [] K := by
  refine v_aload_n C dX4_tellsAt_0 rfl ?_
  refine v_iload_n C dX4_tellsAt_1 rfl ?_
  refine v_iload_n C dX4_tellsAt_2 rfl ?_
  refine v_iconst C dX4_tellsAt_3 (by decide) ?_
  refine v_iadd C dX4_tellsAt_4 h.1 ?_
  replace h := h.2
  refine v_invV C ctX4_ticksTold dX4_tellsAt_5 ivX4_87 ⟨by decide, by decide, rfl, rfl⟩ ((i0, x1, x1 + 1) : Int × Int × Int) (As := [.inl x1, .inl (x1 + 1)]) rfl rfl rfl (by decide) rfl (st := []) rfl (Nat.le_of_ble_eq_true rfl) h (fun o M5 oM5 io5 h => ?_)
  obtain ⟨r5, rfl, h⟩ := rI_out h
  refine v_push ?_
  refine v_if C dX4_tellsAt_8 (tgt := 15) (by decide) (P := r5 ≤ 0) rfl (fun c8 => ?_) (fun c8 => ?_)
  · replace h := h.1 c8
    refine v_iconst C dX4_tellsAt_15 (by decide) ?_
    exact v_zret C dX4_tellsAt_16 (by decide) h
  · replace h := h.2 c8
    refine v_iconst C dX4_tellsAt_11 (by decide) ?_
    refine v_goto C dX4_tellsAt_12 (tgt := 16) (by decide) ?_
    exact v_zret C dX4_tellsAt_16 (by decide) h
abbrev spX4_tellsAt (pl t : Int) (M : Mem) (K : Kont) : Prop := (WFf (cFilm M 1) ∧ PlK (cFilm M 1) (M 19 pl) (M 20 pl) ∧ (0 ≤ t ∧ t < 1000)) ∧ K (some (if tkN (cFilm M 1) (M 19 pl) (M 20 pl) t (t + 1) (M 5 1 7).toNat ≤ 0 then 0 else 1)) M
theorem ctX4_tellsAt : CtX4_tellsAt spX4_tellsAt := by
  refine ct_of (by decide) dmC (fun _ => Nat.le_of_ble_eq_true rfl) ?_
  intro κ a M K C oM h
  obtain ⟨pl, t⟩ := a
  dsimp only [spX4_tellsAt] at h
  obtain ⟨⟨hf, hP, hab⟩, hk⟩ := h
  refine sgX4_tellsAt_0 C pl t ⟨by omega, ⟨hf, hP, by omega, by omega, by omega, by omega⟩, fun c => ?_, fun c => ?_⟩
  · rw [if_pos c] at hk
    exact hk
  · rw [if_neg c] at hk
    exact hk
end
section
/-! ===== GreedyFinder ===== -/
/-! ===== GapTellings$GreedyFinder.versionBit ===== -/
abbrev rmX2_versionBit : Room := { frames := 0, cells := 0, slots := 0, locals := 0 }
abbrev argX2_versionBit (a : Int × Int) : List PV := [.inr (23, 0), .inl a.1, .inl a.2]
abbrev CtX2_versionBit (sp : Int → Int → Mem → Kont → Prop) : Prop := Ct yX2_versionBit cX2_versionBit 3 (some .int) rmX2_versionBit domC argX2_versionBit (fun a => sp a.1 a.2)
theorem dX2_versionBit_0 : decode cX2_versionBit 0 = .ok (.iconst 1, 1) := by decide +kernel
theorem dX2_versionBit_1 : decode cX2_versionBit 1 = .ok (.iload_n 1, 1) := by decide +kernel
theorem dX2_versionBit_2 : decode cX2_versionBit 2 = .ok (.iconst 3, 1) := by decide +kernel
theorem dX2_versionBit_3 : decode cX2_versionBit 3 = .ok (.imul, 1) := by decide +kernel
theorem dX2_versionBit_4 : decode cX2_versionBit 4 = .ok (.iload_n 2, 1) := by decide +kernel
theorem dX2_versionBit_5 : decode cX2_versionBit 5 = .ok (.iadd, 1) := by decide +kernel
theorem dX2_versionBit_6 : decode cX2_versionBit 6 = .ok (.ishl, 1) := by decide +kernel
theorem dX2_versionBit_7 : decode cX2_versionBit 7 = .ok (.ireturn, 1) := by decide +kernel
set_option maxHeartbeats 4000000 in
set_option maxRecDepth 20000 in
theorem sgX2_versionBit_0 {κ : Kx} {K : Kont} {M : Mem} (C : Cx κ RX2 cX2_versionBit 3 (some .int) rmX2_versionBit domC) (x1 : Int) (x2 : Int)
    (h :
    inR (x1 * 3) ∧
    inR ((x1 * 3) + x2) ∧
    K (some (bShl 1 ((x1 * 3) + x2))) M) : V κ 3 M 0 [some (.inr (23, 0)), some (.inl x1), some (.inl x2)] [] K := by
  refine v_iconst C dX2_versionBit_0 (by decide) ?_
  refine v_iload_n C dX2_versionBit_1 rfl ?_
  refine v_iconst C dX2_versionBit_2 (by decide) ?_
  refine v_imul C dX2_versionBit_3 h.1 ?_
  replace h := h.2
  refine v_iload_n C dX2_versionBit_4 rfl ?_
  refine v_iadd C dX2_versionBit_5 h.1 ?_
  replace h := h.2
  refine v_ishl C dX2_versionBit_6 ?_
  exact v_iret C dX2_versionBit_7 h
abbrev spX2_versionBit (p v : Int) (M : Mem) (K : Kont) : Prop := (0 ≤ p ∧ p < 7 ∧ 0 ≤ v ∧ v < 3) ∧ K (some (bShl 1 (p * 3 + v))) M
theorem ctX2_versionBit : CtX2_versionBit spX2_versionBit := by
  refine ct_of (by decide) dmC (fun _ => Nat.le_of_ble_eq_true rfl) ?_
  intro κ a M K C oM h
  obtain ⟨p, v⟩ := a
  dsimp only [spX2_versionBit] at h
  exact sgX2_versionBit_0 C p v ⟨by omega, by omega, h.2⟩
/-- what the finder has found -/
def fnd (M : Mem) : gSt := (M 23 0 8, M 23 0 9, M 23 0 5, M 23 0 6, M 23 0 7)
/-- nothing but that has changed -/
def AgF (M M' : Mem) : Prop := ∀ r i j, ¬ (r = 23 ∧ i = 0 ∧ 5 ≤ j ∧ j ≤ 9) → M' r i j = M r i j
theorem AgF.rf {M : Mem} : AgF M M := fun _ _ _ _ => rfl
theorem AgF.tr {M M' M2 : Mem} (h : AgF M M') (h2 : AgF M' M2) : AgF M M2 := fun r i j hn => (h2 r i j hn).trans (h r i j hn)
theorem AgF.up {M M' : Mem} (h : AgF M M') {j v : Int} (h5 : 5 ≤ j) (h9 : j ≤ 9) : AgF M (up3 M' 23 0 j v) := by
  intro r i j' hn
  rw [← h r i j' hn]
  exact if_neg (fun q => hn ⟨q.1, q.2.1, by omega, by omega⟩)
theorem AgF.reg {M M' : Mem} (h : AgF M M') {r : Nat} (hr : r ≠ 23) : M' r = M r := by
  funext i j
  exact h r i j (fun q => hr q.1)
theorem AgF.film {M M' : Mem} (h : AgF M M') (f : Int) : cFilm M' f = cFilm M f := cFilm_eq (fun r h1 h2 => h.reg (by omega)) f
/-! ===== GapTellings$GreedyFinder.offer ===== -/
abbrev rmX2_offer : Room := { frames := 2, cells := 0, slots := 0, locals := 48 }
abbrev argX2_offer (a : Int × Int × Int) : List PV := [.inr (23, 0), .inl a.1, .inl a.2.1, .inl a.2.2]
abbrev CtX2_offer (sp : Int → Int → Int → Mem → Kont → Prop) : Prop := Ct yX2_offer cX2_offer 6 none rmX2_offer domC argX2_offer (fun a => sp a.1 a.2.1 a.2.2)
theorem dX2_offer_0 : decode cX2_offer 0 = .ok (.aload_n 0, 1) := by decide +kernel
theorem dX2_offer_1 : decode cX2_offer 1 = .ok (.getfield 9, 3) := by decide +kernel
theorem dX2_offer_4 : decode cX2_offer 4 = .ok (.getfield 74, 3) := by decide +kernel
theorem dX2_offer_7 : decode cX2_offer 7 = .ok (.iload_n 1, 1) := by decide +kernel
theorem dX2_offer_8 : decode cX2_offer 8 = .ok (.aaload, 1) := by decide +kernel
theorem dX2_offer_9 : decode cX2_offer 9 = .ok (.getfield 83, 3) := by decide +kernel
theorem dX2_offer_12 : decode cX2_offer 12 = .ok (.iload_n 2, 1) := by decide +kernel
theorem dX2_offer_13 : decode cX2_offer 13 = .ok (.iaload, 1) := by decide +kernel
theorem dX2_offer_14 : decode cX2_offer 14 = .ok (.istore 4, 2) := by decide +kernel
theorem dX2_offer_16 : decode cX2_offer 16 = .ok (.aload_n 0, 1) := by decide +kernel
theorem dX2_offer_17 : decode cX2_offer 17 = .ok (.getfield 15, 3) := by decide +kernel
theorem dX2_offer_20 : decode cX2_offer 20 = .ok (.iload_n 1, 1) := by decide +kernel
theorem dX2_offer_21 : decode cX2_offer 21 = .ok (.iload_n 2, 1) := by decide +kernel
theorem dX2_offer_22 : decode cX2_offer 22 = .ok (.iload_n 3, 1) := by decide +kernel
theorem dX2_offer_23 : decode cX2_offer 23 = .ok (.invokevirtual 118, 3) := by decide +kernel
theorem dX2_offer_26 : decode cX2_offer 26 = .ok (.istore 5, 2) := by decide +kernel
theorem dX2_offer_28 : decode cX2_offer 28 = .ok (.iload 4, 2) := by decide +kernel
theorem dX2_offer_30 : decode cX2_offer 30 = .ok (.aload_n 0, 1) := by decide +kernel
theorem dX2_offer_31 : decode cX2_offer 31 = .ok (.getfield 42, 3) := by decide +kernel
theorem dX2_offer_34 : decode cX2_offer 34 = .ok (.if_icmp .gt 21, 3) := by decide +kernel
theorem dX2_offer_37 : decode cX2_offer 37 = .ok (.iload 4, 2) := by decide +kernel
theorem dX2_offer_39 : decode cX2_offer 39 = .ok (.aload_n 0, 1) := by decide +kernel
theorem dX2_offer_40 : decode cX2_offer 40 = .ok (.getfield 42, 3) := by decide +kernel
theorem dX2_offer_43 : decode cX2_offer 43 = .ok (.if_icmp .ne 39, 3) := by decide +kernel
theorem dX2_offer_46 : decode cX2_offer 46 = .ok (.iload 5, 2) := by decide +kernel
theorem dX2_offer_48 : decode cX2_offer 48 = .ok (.aload_n 0, 1) := by decide +kernel
theorem dX2_offer_49 : decode cX2_offer 49 = .ok (.getfield 45, 3) := by decide +kernel
theorem dX2_offer_52 : decode cX2_offer 52 = .ok (.if_icmp .le 30, 3) := by decide +kernel
theorem dX2_offer_55 : decode cX2_offer 55 = .ok (.aload_n 0, 1) := by decide +kernel
theorem dX2_offer_56 : decode cX2_offer 56 = .ok (.iload_n 1, 1) := by decide +kernel
theorem dX2_offer_57 : decode cX2_offer 57 = .ok (.putfield 48, 3) := by decide +kernel
theorem dX2_offer_60 : decode cX2_offer 60 = .ok (.aload_n 0, 1) := by decide +kernel
theorem dX2_offer_61 : decode cX2_offer 61 = .ok (.iload_n 2, 1) := by decide +kernel
theorem dX2_offer_62 : decode cX2_offer 62 = .ok (.putfield 51, 3) := by decide +kernel
theorem dX2_offer_65 : decode cX2_offer 65 = .ok (.aload_n 0, 1) := by decide +kernel
theorem dX2_offer_66 : decode cX2_offer 66 = .ok (.iload_n 3, 1) := by decide +kernel
theorem dX2_offer_67 : decode cX2_offer 67 = .ok (.putfield 54, 3) := by decide +kernel
theorem dX2_offer_70 : decode cX2_offer 70 = .ok (.aload_n 0, 1) := by decide +kernel
theorem dX2_offer_71 : decode cX2_offer 71 = .ok (.iload 4, 2) := by decide +kernel
theorem dX2_offer_73 : decode cX2_offer 73 = .ok (.putfield 42, 3) := by decide +kernel
theorem dX2_offer_76 : decode cX2_offer 76 = .ok (.aload_n 0, 1) := by decide +kernel
theorem dX2_offer_77 : decode cX2_offer 77 = .ok (.iload 5, 2) := by decide +kernel
theorem dX2_offer_79 : decode cX2_offer 79 = .ok (.putfield 45, 3) := by decide +kernel
theorem dX2_offer_82 : decode cX2_offer 82 = .ok (.return_, 1) := by decide +kernel
theorem flX2_9 : FL RX2 9 2 0 := ⟨_, _, _, rfl, by decide, uwX2, Or.inl (tb_mem (t_in1 (List.mem_of_getElem? (i := 227) (by decide +kernel))) (by decide +kernel))⟩
theorem flX2_74 : FL RX2 74 1 8 := ⟨_, _, _, rfl, by decide, uwX1, Or.inr ⟨"GapTellings", (nw_mem (t_in1 (List.mem_of_getElem? (i := 139) (by decide +kernel))) (by decide +kernel))⟩⟩
theorem flX2_83 : FL RX2 83 3 6 := ⟨_, _, _, rfl, by decide, uwX3, Or.inr ⟨"GapTellings", (nw_mem (t_in1 (List.mem_of_getElem? (i := 88) (by decide +kernel))) (by decide +kernel))⟩⟩
theorem flX2_15 : FL RX2 15 2 1 := ⟨_, _, _, rfl, by decide, uwX2, Or.inl (tb_mem (t_in1 (List.mem_of_getElem? (i := 228) (by decide +kernel))) (by decide +kernel))⟩
theorem ivX2_118 : IV RX2 118 yX6_gainOf cX6_gainOf 8 (some .int) 3 := ⟨(tb_mem (t_in4 (List.mem_of_getElem? (i := 88) (by decide +kernel))) (by decide +kernel)), (tb_mem (t_in3 (List.mem_of_getElem? (i := 120) (by decide +kernel))) (by decide +kernel)), (tb_mem (t_in3 (List.mem_of_getElem? (i := 121) (by decide +kernel))) (by decide +kernel)), (tb_mem (t_in1 (List.mem_of_getElem? (i := 5) (by decide +kernel))) (by decide +kernel)), (tb_mem (t_in3 (List.mem_of_getElem? (i := 122) (by decide +kernel))) (by decide +kernel)), ⟨by decide +kernel, by decide +kernel, by decide +kernel⟩⟩
theorem flX2_42 : FL RX2 42 2 8 := ⟨_, _, _, rfl, by decide, uwX2, Or.inl (tb_mem (t_in1 (List.mem_of_getElem? (i := 237) (by decide +kernel))) (by decide +kernel))⟩
theorem plX2_48 : PL RX2 48 2 5 .int := ⟨_, _, _, rfl, by decide, uwX2, Or.inl (tb_mem (t_in1 (List.mem_of_getElem? (i := 234) (by decide +kernel))) (by decide +kernel)), rfl, by decide +kernel, tyX2, tyX2_ok, nmX2⟩
theorem plX2_51 : PL RX2 51 2 6 .int := ⟨_, _, _, rfl, by decide, uwX2, Or.inl (tb_mem (t_in1 (List.mem_of_getElem? (i := 235) (by decide +kernel))) (by decide +kernel)), rfl, by decide +kernel, tyX2, tyX2_ok, nmX2⟩
theorem plX2_54 : PL RX2 54 2 7 .int := ⟨_, _, _, rfl, by decide, uwX2, Or.inl (tb_mem (t_in1 (List.mem_of_getElem? (i := 236) (by decide +kernel))) (by decide +kernel)), rfl, by decide +kernel, tyX2, tyX2_ok, nmX2⟩
theorem plX2_42 : PL RX2 42 2 8 .int := ⟨_, _, _, rfl, by decide, uwX2, Or.inl (tb_mem (t_in1 (List.mem_of_getElem? (i := 237) (by decide +kernel))) (by decide +kernel)), rfl, by decide +kernel, tyX2, tyX2_ok, nmX2⟩
theorem plX2_45 : PL RX2 45 2 9 .int := ⟨_, _, _, rfl, by decide, uwX2, Or.inl (tb_mem (t_in1 (List.mem_of_getElem? (i := 238) (by decide +kernel))) (by decide +kernel)), rfl, by decide +kernel, tyX2, tyX2_ok, nmX2⟩
theorem flX2_45 : FL RX2 45 2 9 := ⟨_, _, _, rfl, by decide, uwX2, Or.inl (tb_mem (t_in1 (List.mem_of_getElem? (i := 238) (by decide +kernel))) (by decide +kernel))⟩
set_option maxHeartbeats 4000000 in
set_option maxRecDepth 20000 in
theorem sgX2_offer_0 {κ : Kx} {K : Kont} {M : Mem} (C : Cx κ RX2 cX2_offer 6 none rmX2_offer domC) (x1 : Int) (x2 : Int) (x3 : Int)
    (h :
    (0 ≤ x1 ∧ x1 < 7) ∧
    (0 ≤ x2 ∧ x2 < 3) ∧
    ∀ y4_14 : Int, y4_14 = M 13 (7 * 1 + x1) x2 →
    spX6_gainOf 0 x1 x2 x3 M (rI (fun r23 M23 =>
    (((M23 23 0 8) < y4_14 →
      ∀ M57 : Mem, M57 = up3 M23 23 0 5 x1 →
      ∀ M62 : Mem, M62 = up3 M57 23 0 6 x2 →
      ∀ M67 : Mem, M67 = up3 M62 23 0 7 x3 →
      ∀ M73 : Mem, M73 = up3 M67 23 0 8 y4_14 →
      ∀ M79 : Mem, M79 = up3 M73 23 0 9 r23 →
      K none M79) ∧
     (¬ ((M23 23 0 8) < y4_14) →
      ((y4_14 ≠ (M23 23 0 8) →
        K none M23) ∧
       (¬ (y4_14 ≠ (M23 23 0 8)) →
        ((r23 ≤ (M23 23 0 9) →
          K none M23) ∧
         (¬ (r23 ≤ (M23 23 0 9)) →
          ∀ M57 : Mem, M57 = up3 M23 23 0 5 x1 →
          ∀ M62 : Mem, M62 = up3 M57 23 0 6 x2 →
          ∀ M67 : Mem, M67 = up3 M62 23 0 7 x3 →
          ∀ M73 : Mem, M73 = up3 M67 23 0 8 y4_14 →
          ∀ M79 : Mem, M79 = up3 M73 23 0 9 r23 →
          K none M79))))))))) : V κ 6 M 0 [some (.inr (23, 0)), some (.inl x1), some (.inl x2), some (.inl x3), none, none] [] K := by
  refine v_aload_n C dX2_offer_0 rfl ?_
  refine v_get C dX2_offer_1 flX2_9 rfl (by decide) (by decide) (w := .inr (5, 1)) rfl ?_
  refine v_get C dX2_offer_4 flX2_74 rfl (by decide) (by decide) (w := .inr (10, 1)) rfl ?_
  refine v_iload_n C dX2_offer_7 rfl ?_
  refine v_aald C dX2_offer_8 h.1.1 h.1.2 ?_
  replace h := h.2
  refine v_get C dX2_offer_9 flX2_83 rfl (by decide) (by decide) (w := .inr (13, 7 * 1 + x1)) rfl ?_
  refine v_iload_n C dX2_offer_12 rfl ?_
  refine v_iald C dX2_offer_13 rfl h.1.1 h.1.2 ?_
  replace h := h.2
  refine v_nm (fun y4_14 ey4_14 => ?_)
  replace h := h y4_14 ey4_14
  refine v_istore C dX2_offer_14 (by decide) (Nat.le_of_ble_eq_true rfl) (lv' := [some (.inr (23, 0)), some (.inl x1), some (.inl x2), some (.inl x3), some (.inl y4_14), none]) rfl ?_
  refine v_aload_n C dX2_offer_16 rfl ?_
  refine v_get C dX2_offer_17 flX2_15 rfl (by decide) (by decide) (w := .inr (14, 0)) rfl ?_
  refine v_iload_n C dX2_offer_20 rfl ?_
  refine v_iload_n C dX2_offer_21 rfl ?_
  refine v_iload_n C dX2_offer_22 rfl ?_
  refine v_invV C ctX6_gainOf dX2_offer_23 ivX2_118 ⟨by decide, by decide, rfl, rfl⟩ ((0, x1, x2, x3) : Int × Int × Int × Int) (As := [.inl x1, .inl x2, .inl x3]) rfl rfl rfl (by decide) rfl (st := []) rfl (Nat.le_of_ble_eq_true rfl) h (fun o M23 oM23 io23 h => ?_)
  obtain ⟨r23, rfl, h⟩ := rI_out h
  refine v_push ?_
  refine v_istore C dX2_offer_26 (by decide) (Nat.le_of_ble_eq_true rfl) (lv' := [some (.inr (23, 0)), some (.inl x1), some (.inl x2), some (.inl x3), some (.inl y4_14), some (.inl r23)]) rfl ?_
  refine v_iload C dX2_offer_28 rfl ?_
  refine v_aload_n C dX2_offer_30 rfl ?_
  refine v_get C dX2_offer_31 flX2_42 rfl (by decide) (by decide) (w := .inl (M23 23 0 8)) rfl ?_
  refine v_icmp C dX2_offer_34 (tgt := 55) (by decide) (P := (M23 23 0 8) < y4_14) rfl (fun c34 => ?_) (fun c34 => ?_)
  · replace h := h.1 c34
    refine v_aload_n C dX2_offer_55 rfl ?_
    refine v_iload_n C dX2_offer_56 rfl ?_
    refine v_put C dX2_offer_57 plX2_48 rfl (by decide) (by decide) rfl rfl rfl ?_
    refine v_nmM (fun M57 eM57 => ?_)
    replace h := h M57 eM57
    refine v_aload_n C dX2_offer_60 rfl ?_
    refine v_iload_n C dX2_offer_61 rfl ?_
    refine v_put C dX2_offer_62 plX2_51 rfl (by decide) (by decide) rfl rfl rfl ?_
    refine v_nmM (fun M62 eM62 => ?_)
    replace h := h M62 eM62
    refine v_aload_n C dX2_offer_65 rfl ?_
    refine v_iload_n C dX2_offer_66 rfl ?_
    refine v_put C dX2_offer_67 plX2_54 rfl (by decide) (by decide) rfl rfl rfl ?_
    refine v_nmM (fun M67 eM67 => ?_)
    replace h := h M67 eM67
    refine v_aload_n C dX2_offer_70 rfl ?_
    refine v_iload C dX2_offer_71 rfl ?_
    refine v_put C dX2_offer_73 plX2_42 rfl (by decide) (by decide) rfl rfl rfl ?_
    refine v_nmM (fun M73 eM73 => ?_)
    replace h := h M73 eM73
    refine v_aload_n C dX2_offer_76 rfl ?_
    refine v_iload C dX2_offer_77 rfl ?_
    refine v_put C dX2_offer_79 plX2_45 rfl (by decide) (by decide) rfl rfl rfl ?_
    refine v_nmM (fun M79 eM79 => ?_)
    replace h := h M79 eM79
    exact v_vret C dX2_offer_82 h
  · replace h := h.2 c34
    refine v_iload C dX2_offer_37 rfl ?_
    refine v_aload_n C dX2_offer_39 rfl ?_
    refine v_get C dX2_offer_40 flX2_42 rfl (by decide) (by decide) (w := .inl (M23 23 0 8)) rfl ?_
    refine v_icmp C dX2_offer_43 (tgt := 82) (by decide) (P := y4_14 ≠ (M23 23 0 8)) rfl (fun c43 => ?_) (fun c43 => ?_)
    · replace h := h.1 c43
      exact v_vret C dX2_offer_82 h
    · replace h := h.2 c43
      refine v_iload C dX2_offer_46 rfl ?_
      refine v_aload_n C dX2_offer_48 rfl ?_
      refine v_get C dX2_offer_49 flX2_45 rfl (by decide) (by decide) (w := .inl (M23 23 0 9)) rfl ?_
      refine v_icmp C dX2_offer_52 (tgt := 82) (by decide) (P := r23 ≤ (M23 23 0 9)) rfl (fun c52 => ?_) (fun c52 => ?_)
      · replace h := h.1 c52
        exact v_vret C dX2_offer_82 h
      · replace h := h.2 c52
        refine v_aload_n C dX2_offer_55 rfl ?_
        refine v_iload_n C dX2_offer_56 rfl ?_
        refine v_put C dX2_offer_57 plX2_48 rfl (by decide) (by decide) rfl rfl rfl ?_
        refine v_nmM (fun M57 eM57 => ?_)
        replace h := h M57 eM57
        refine v_aload_n C dX2_offer_60 rfl ?_
        refine v_iload_n C dX2_offer_61 rfl ?_
        refine v_put C dX2_offer_62 plX2_51 rfl (by decide) (by decide) rfl rfl rfl ?_
        refine v_nmM (fun M62 eM62 => ?_)
        replace h := h M62 eM62
        refine v_aload_n C dX2_offer_65 rfl ?_
        refine v_iload_n C dX2_offer_66 rfl ?_
        refine v_put C dX2_offer_67 plX2_54 rfl (by decide) (by decide) rfl rfl rfl ?_
        refine v_nmM (fun M67 eM67 => ?_)
        replace h := h M67 eM67
        refine v_aload_n C dX2_offer_70 rfl ?_
        refine v_iload C dX2_offer_71 rfl ?_
        refine v_put C dX2_offer_73 plX2_42 rfl (by decide) (by decide) rfl rfl rfl ?_
        refine v_nmM (fun M73 eM73 => ?_)
        replace h := h M73 eM73
        refine v_aload_n C dX2_offer_76 rfl ?_
        refine v_iload C dX2_offer_77 rfl ?_
        refine v_put C dX2_offer_79 plX2_45 rfl (by decide) (by decide) rfl rfl rfl ?_
        refine v_nmM (fun M79 eM79 => ?_)
        replace h := h M79 eM79
        exact v_vret C dX2_offer_82 h
abbrev spX2_offer (p v t : Int) (M : Mem) (K : Kont) : Prop := (WFf (cFilm M 1) ∧ TrB M 0 ∧ (0 ≤ p ∧ p < M 5 1 7) ∧ (0 ≤ v ∧ v < M 11 (7 * 1 + p) 4) ∧ (0 ≤ t ∧ t < M 5 1 0)) ∧
  ∀ M', AgF M M' → fnd M' = offS (cFilm M 1) (M 17 0) p v t (fnd M) → K none M'
theorem ctX2_offer : CtX2_offer spX2_offer := by
  refine ct_of (by decide) dmC (fun _ => Nat.le_of_ble_eq_true rfl) ?_
  intro κ a M K C oM h
  obtain ⟨p, v, t⟩ := a
  dsimp only [spX2_offer] at h
  obtain ⟨⟨hf, hb, hp, hv, ht⟩, hk⟩ := h
  have hw := wf_pv hf hp.1 hp.2 hv.1 hv.2
  simp only [cFilm] at hw
  have new : ∀ y, y = M 13 (7 * 1 + p) v → ∀ (c : (fnd M).1 < (cFilm M 1) 14 p v ∨ ((cFilm M 1) 14 p v = (fnd M).1 ∧ (fnd M).2.1 < gainW (cFilm M 1) (M 17 0) p v t)), ∀ M57 : Mem, M57 = up3 M 23 0 5 p → ∀ M62 : Mem, M62 = up3 M57 23 0 6 v → ∀ M67 : Mem, M67 = up3 M62 23 0 7 t → ∀ M73 : Mem, M73 = up3 M67 23 0 8 y →
      ∀ M79 : Mem, M79 = up3 M73 23 0 9 (gainW (cFilm M 1) (M 17 0) p v t) → K none M79 := by
    intro y ey c M1 e1 M2 e2 M3 e3 M4 e4 M5 e5
    refine hk M5 ?_ ?_
    · rw [e5, e4, e3, e2, e1]
      exact ((((AgF.rf.up (by decide) (by decide)).up (by decide) (by decide)).up (by decide) (by decide)).up (by decide) (by decide)).up (by decide) (by decide)
    · unfold offS
      rw [if_pos c]
      unfold fnd
      rw [e5, e4, e3, e2, e1, ey]
      simp [up3, cFilm]
  refine sgX2_offer_0 C p v t ⟨by omega, by omega, fun y ey => ⟨⟨hf, hb, hp, hv, ht⟩, fun c => ?_, fun c => ⟨fun c2 => ?_, fun c2 => ⟨fun c3 => ?_, fun c3 => ?_⟩⟩⟩⟩
  · exact new y ey (Or.inl (by show M 23 0 8 < M 13 (7 * 1 + p) v; omega))
  · refine hk M AgF.rf ?_
    unfold offS
    rw [if_neg]
    rintro (z | z)
    · have : M 23 0 8 < M 13 (7 * 1 + p) v := z
      omega
    · have : M 13 (7 * 1 + p) v = M 23 0 8 := z.1
      omega
  · refine hk M AgF.rf ?_
    unfold offS
    rw [if_neg]
    rintro (z | z)
    · have : M 23 0 8 < M 13 (7 * 1 + p) v := z
      omega
    · have : M 23 0 9 < gainW (cFilm M 1) (M 17 0) p v t := z.2
      omega
  · exact new y ey (Or.inr ⟨by show M 13 (7 * 1 + p) v = M 23 0 8; omega, by show M 23 0 9 < _; omega⟩)
/-! ===== GapTellings$GreedyFinder.lookAtTicks ===== -/
abbrev rmX2_lookAtTicks : Room := { frames := 3, cells := 0, slots := 0, locals := 73 }
abbrev argX2_lookAtTicks (a : Int × Int) : List PV := [.inr (23, 0), .inl a.1, .inl a.2]
abbrev CtX2_lookAtTicks (sp : Int → Int → Mem → Kont → Prop) : Prop := Ct yX2_lookAtTicks cX2_lookAtTicks 7 none rmX2_lookAtTicks domC argX2_lookAtTicks (fun a => sp a.1 a.2)
theorem dX2_lookAtTicks_0 : decode cX2_lookAtTicks 0 = .ok (.aload_n 0, 1) := by decide +kernel
theorem dX2_lookAtTicks_1 : decode cX2_lookAtTicks 1 = .ok (.getfield 9, 3) := by decide +kernel
theorem dX2_lookAtTicks_4 : decode cX2_lookAtTicks 4 = .ok (.getfield 74, 3) := by decide +kernel
theorem dX2_lookAtTicks_7 : decode cX2_lookAtTicks 7 = .ok (.iload_n 1, 1) := by decide +kernel
theorem dX2_lookAtTicks_8 : decode cX2_lookAtTicks 8 = .ok (.aaload, 1) := by decide +kernel
theorem dX2_lookAtTicks_9 : decode cX2_lookAtTicks 9 = .ok (.astore_n 3, 1) := by decide +kernel
theorem dX2_lookAtTicks_10 : decode cX2_lookAtTicks 10 = .ok (.iconst 0, 1) := by decide +kernel
theorem dX2_lookAtTicks_11 : decode cX2_lookAtTicks 11 = .ok (.aload_n 3, 1) := by decide +kernel
theorem dX2_lookAtTicks_12 : decode cX2_lookAtTicks 12 = .ok (.getfield 91, 3) := by decide +kernel
theorem dX2_lookAtTicks_15 : decode cX2_lookAtTicks 15 = .ok (.aload_n 3, 1) := by decide +kernel
theorem dX2_lookAtTicks_16 : decode cX2_lookAtTicks 16 = .ok (.getfield 94, 3) := by decide +kernel
theorem dX2_lookAtTicks_19 : decode cX2_lookAtTicks 19 = .ok (.isub, 1) := by decide +kernel
theorem dX2_lookAtTicks_20 : decode cX2_lookAtTicks 20 = .ok (.invokestatic 97, 3) := by decide +kernel
theorem dX2_lookAtTicks_23 : decode cX2_lookAtTicks 23 = .ok (.istore 4, 2) := by decide +kernel
theorem dX2_lookAtTicks_25 : decode cX2_lookAtTicks 25 = .ok (.aload_n 0, 1) := by decide +kernel
theorem dX2_lookAtTicks_26 : decode cX2_lookAtTicks 26 = .ok (.getfield 9, 3) := by decide +kernel
theorem dX2_lookAtTicks_29 : decode cX2_lookAtTicks 29 = .ok (.getfield 102, 3) := by decide +kernel
theorem dX2_lookAtTicks_32 : decode cX2_lookAtTicks 32 = .ok (.iconst 1, 1) := by decide +kernel
theorem dX2_lookAtTicks_33 : decode cX2_lookAtTicks 33 = .ok (.isub, 1) := by decide +kernel
theorem dX2_lookAtTicks_34 : decode cX2_lookAtTicks 34 = .ok (.aload_n 3, 1) := by decide +kernel
theorem dX2_lookAtTicks_35 : decode cX2_lookAtTicks 35 = .ok (.getfield 91, 3) := by decide +kernel
theorem dX2_lookAtTicks_38 : decode cX2_lookAtTicks 38 = .ok (.aload_n 3, 1) := by decide +kernel
theorem dX2_lookAtTicks_39 : decode cX2_lookAtTicks 39 = .ok (.getfield 105, 3) := by decide +kernel
theorem dX2_lookAtTicks_42 : decode cX2_lookAtTicks 42 = .ok (.iadd, 1) := by decide +kernel
theorem dX2_lookAtTicks_43 : decode cX2_lookAtTicks 43 = .ok (.invokestatic 108, 3) := by decide +kernel
theorem dX2_lookAtTicks_46 : decode cX2_lookAtTicks 46 = .ok (.istore 5, 2) := by decide +kernel
theorem dX2_lookAtTicks_48 : decode cX2_lookAtTicks 48 = .ok (.iload 4, 2) := by decide +kernel
theorem dX2_lookAtTicks_50 : decode cX2_lookAtTicks 50 = .ok (.istore 6, 2) := by decide +kernel
theorem dX2_lookAtTicks_52 : decode cX2_lookAtTicks 52 = .ok (.iload 6, 2) := by decide +kernel
theorem dX2_lookAtTicks_54 : decode cX2_lookAtTicks 54 = .ok (.iload 5, 2) := by decide +kernel
theorem dX2_lookAtTicks_56 : decode cX2_lookAtTicks 56 = .ok (.if_icmp .gt 35, 3) := by decide +kernel
theorem dX2_lookAtTicks_59 : decode cX2_lookAtTicks 59 = .ok (.aload_n 0, 1) := by decide +kernel
theorem dX2_lookAtTicks_60 : decode cX2_lookAtTicks 60 = .ok (.getfield 24, 3) := by decide +kernel
theorem dX2_lookAtTicks_63 : decode cX2_lookAtTicks 63 = .ok (.aload_n 0, 1) := by decide +kernel
theorem dX2_lookAtTicks_64 : decode cX2_lookAtTicks 64 = .ok (.getfield 15, 3) := by decide +kernel
theorem dX2_lookAtTicks_67 : decode cX2_lookAtTicks 67 = .ok (.iload_n 1, 1) := by decide +kernel
theorem dX2_lookAtTicks_68 : decode cX2_lookAtTicks 68 = .ok (.iload_n 2, 1) := by decide +kernel
theorem dX2_lookAtTicks_69 : decode cX2_lookAtTicks 69 = .ok (.iload 6, 2) := by decide +kernel
theorem dX2_lookAtTicks_71 : decode cX2_lookAtTicks 71 = .ok (.invokevirtual 111, 3) := by decide +kernel
theorem dX2_lookAtTicks_74 : decode cX2_lookAtTicks 74 = .ok (.ifCond .ne 11, 3) := by decide +kernel
theorem dX2_lookAtTicks_77 : decode cX2_lookAtTicks 77 = .ok (.aload_n 0, 1) := by decide +kernel
theorem dX2_lookAtTicks_78 : decode cX2_lookAtTicks 78 = .ok (.iload_n 1, 1) := by decide +kernel
theorem dX2_lookAtTicks_79 : decode cX2_lookAtTicks 79 = .ok (.iload_n 2, 1) := by decide +kernel
theorem dX2_lookAtTicks_80 : decode cX2_lookAtTicks 80 = .ok (.iload 6, 2) := by decide +kernel
theorem dX2_lookAtTicks_82 : decode cX2_lookAtTicks 82 = .ok (.invokevirtual 115, 3) := by decide +kernel
theorem dX2_lookAtTicks_85 : decode cX2_lookAtTicks 85 = .ok (.iinc 6 1, 3) := by decide +kernel
theorem dX2_lookAtTicks_88 : decode cX2_lookAtTicks 88 = .ok (.goto (-36), 3) := by decide +kernel
theorem dX2_lookAtTicks_91 : decode cX2_lookAtTicks 91 = .ok (.return_, 1) := by decide +kernel
theorem flX2_91 : FL RX2 91 3 0 := ⟨_, _, _, rfl, by decide, uwX3, Or.inr ⟨"GapTellings", (nw_mem (t_in1 (List.mem_of_getElem? (i := 63) (by decide +kernel))) (by decide +kernel))⟩⟩
theorem flX2_94 : FL RX2 94 3 1 := ⟨_, _, _, rfl, by decide, uwX3, Or.inr ⟨"GapTellings", (nw_mem (t_in1 (List.mem_of_getElem? (i := 68) (by decide +kernel))) (by decide +kernel))⟩⟩
theorem ivX2_97 : IMax RX2 97 := ⟨(tb_mem (t_in4 (List.mem_of_getElem? (i := 81) (by decide +kernel))) (by decide +kernel)), (tb_mem (t_in2 (List.mem_of_getElem? (i := 117) (by decide +kernel))) (by decide +kernel)), (tb_mem (t_in1 (List.mem_of_getElem? (i := 11) (by decide +kernel))) (by decide +kernel)), (tb_mem (t_in2 (List.mem_of_getElem? (i := 118) (by decide +kernel))) (by decide +kernel))⟩
theorem flX2_102 : FL RX2 102 1 0 := ⟨_, _, _, rfl, by decide, uwX1, Or.inr ⟨"GapTellings", (nw_mem (t_in1 (List.mem_of_getElem? (i := 110) (by decide +kernel))) (by decide +kernel))⟩⟩
theorem flX2_105 : FL RX2 105 3 2 := ⟨_, _, _, rfl, by decide, uwX3, Or.inr ⟨"GapTellings", (nw_mem (t_in1 (List.mem_of_getElem? (i := 71) (by decide +kernel))) (by decide +kernel))⟩⟩
theorem ivX2_108 : IMin RX2 108 := ⟨(tb_mem (t_in4 (List.mem_of_getElem? (i := 82) (by decide +kernel))) (by decide +kernel)), (tb_mem (t_in2 (List.mem_of_getElem? (i := 32) (by decide +kernel))) (by decide +kernel)), (tb_mem (t_in1 (List.mem_of_getElem? (i := 11) (by decide +kernel))) (by decide +kernel)), (tb_mem (t_in2 (List.mem_of_getElem? (i := 33) (by decide +kernel))) (by decide +kernel))⟩
theorem flX2_24 : FL RX2 24 2 2 := ⟨_, _, _, rfl, by decide, uwX2, Or.inl (tb_mem (t_in1 (List.mem_of_getElem? (i := 229) (by decide +kernel))) (by decide +kernel))⟩
theorem ivX2_111 : IV RX2 111 yX4_whyNot cX4_whyNot 6 (some .int) 4 := ⟨(tb_mem (t_in4 (List.mem_of_getElem? (i := 83) (by decide +kernel))) (by decide +kernel)), (tb_mem (t_in3 (List.mem_of_getElem? (i := 58) (by decide +kernel))) (by decide +kernel)), (tb_mem (t_in3 (List.mem_of_getElem? (i := 59) (by decide +kernel))) (by decide +kernel)), (tb_mem (t_in1 (List.mem_of_getElem? (i := 6) (by decide +kernel))) (by decide +kernel)), (tb_mem (t_in3 (List.mem_of_getElem? (i := 60) (by decide +kernel))) (by decide +kernel)), ⟨by decide +kernel, by decide +kernel, by decide +kernel⟩⟩
theorem ivX2_115 : IV RX2 115 yX2_offer cX2_offer 6 none 3 := ⟨(tb_mem (t_in4 (List.mem_of_getElem? (i := 84) (by decide +kernel))) (by decide +kernel)), (tb_mem (t_in4 (List.mem_of_getElem? (i := 85) (by decide +kernel))) (by decide +kernel)), (tb_mem (t_in4 (List.mem_of_getElem? (i := 86) (by decide +kernel))) (by decide +kernel)), (tb_mem (t_in1 (List.mem_of_getElem? (i := 9) (by decide +kernel))) (by decide +kernel)), (tb_mem (t_in4 (List.mem_of_getElem? (i := 87) (by decide +kernel))) (by decide +kernel)), ⟨by decide +kernel, by decide +kernel, by decide +kernel⟩⟩
set_option maxHeartbeats 4000000 in
set_option maxRecDepth 20000 in
theorem sgX2_lookAtTicks_0 {κ : Kx} {K : Kont} {M : Mem} (C : Cx κ RX2 cX2_lookAtTicks 7 none rmX2_lookAtTicks domC) (x1 : Int) (x2 : Int)
    (h :
    (0 ≤ x1 ∧ x1 < 7) ∧
    inR ((M 11 (7 * 1 + x1) 0) - (M 11 (7 * 1 + x1) 1)) ∧
    ∀ y4_23 : Int, y4_23 = max 0 ((M 11 (7 * 1 + x1) 0) - (M 11 (7 * 1 + x1) 1)) →
    inR ((M 5 1 0) - 1) ∧
    inR ((M 11 (7 * 1 + x1) 0) + (M 11 (7 * 1 + x1) 2)) ∧
    ∀ y5_46 : Int, y5_46 = min ((M 5 1 0) - 1) ((M 11 (7 * 1 + x1) 0) + (M 11 (7 * 1 + x1) 2)) →
    V κ 7 M 52 [some (.inr (23, 0)), some (.inl x1), some (.inl x2), none, none, some (.inl y5_46), some (.inl y4_23)] [] K) : V κ 7 M 0 [some (.inr (23, 0)), some (.inl x1), some (.inl x2), none, none, none, none] [] K := by
  refine v_aload_n C dX2_lookAtTicks_0 rfl ?_
  refine v_get C dX2_lookAtTicks_1 flX2_9 rfl (by decide) (by decide) (w := .inr (5, 1)) rfl ?_
  refine v_get C dX2_lookAtTicks_4 flX2_74 rfl (by decide) (by decide) (w := .inr (10, 1)) rfl ?_
  refine v_iload_n C dX2_lookAtTicks_7 rfl ?_
  refine v_aald C dX2_lookAtTicks_8 h.1.1 h.1.2 ?_
  replace h := h.2
  refine v_astore_n C dX2_lookAtTicks_9 (by decide) (Nat.le_of_ble_eq_true rfl) (lv' := [some (.inr (23, 0)), some (.inl x1), some (.inl x2), some (.inr (11, 7 * 1 + x1)), none, none, none]) rfl ?_
  refine v_iconst C dX2_lookAtTicks_10 (by decide) ?_
  refine v_aload_n C dX2_lookAtTicks_11 rfl ?_
  refine v_get C dX2_lookAtTicks_12 flX2_91 rfl (by decide) (by decide) (w := .inl (M 11 (7 * 1 + x1) 0)) rfl ?_
  refine v_aload_n C dX2_lookAtTicks_15 rfl ?_
  refine v_get C dX2_lookAtTicks_16 flX2_94 rfl (by decide) (by decide) (w := .inl (M 11 (7 * 1 + x1) 1)) rfl ?_
  refine v_isub C dX2_lookAtTicks_19 h.1 ?_
  replace h := h.2
  refine v_max C dX2_lookAtTicks_20 ivX2_97 (Nat.le_of_ble_eq_true rfl) ⟨by decide, by decide⟩ ?_
  refine v_nm (fun y4_23 ey4_23 => ?_)
  replace h := h y4_23 ey4_23
  refine v_istore C dX2_lookAtTicks_23 (by decide) (Nat.le_of_ble_eq_true rfl) (lv' := [some (.inr (23, 0)), some (.inl x1), some (.inl x2), some (.inr (11, 7 * 1 + x1)), some (.inl y4_23), none, none]) rfl ?_
  refine v_aload_n C dX2_lookAtTicks_25 rfl ?_
  refine v_get C dX2_lookAtTicks_26 flX2_9 rfl (by decide) (by decide) (w := .inr (5, 1)) rfl ?_
  refine v_get C dX2_lookAtTicks_29 flX2_102 rfl (by decide) (by decide) (w := .inl (M 5 1 0)) rfl ?_
  refine v_iconst C dX2_lookAtTicks_32 (by decide) ?_
  refine v_isub C dX2_lookAtTicks_33 h.1 ?_
  replace h := h.2
  refine v_aload_n C dX2_lookAtTicks_34 rfl ?_
  refine v_get C dX2_lookAtTicks_35 flX2_91 rfl (by decide) (by decide) (w := .inl (M 11 (7 * 1 + x1) 0)) rfl ?_
  refine v_aload_n C dX2_lookAtTicks_38 rfl ?_
  refine v_get C dX2_lookAtTicks_39 flX2_105 rfl (by decide) (by decide) (w := .inl (M 11 (7 * 1 + x1) 2)) rfl ?_
  refine v_iadd C dX2_lookAtTicks_42 h.1 ?_
  replace h := h.2
  refine v_min C dX2_lookAtTicks_43 ivX2_108 (Nat.le_of_ble_eq_true rfl) ⟨by decide, by decide⟩ ?_
  refine v_nm (fun y5_46 ey5_46 => ?_)
  replace h := h y5_46 ey5_46
  refine v_istore C dX2_lookAtTicks_46 (by decide) (Nat.le_of_ble_eq_true rfl) (lv' := [some (.inr (23, 0)), some (.inl x1), some (.inl x2), some (.inr (11, 7 * 1 + x1)), some (.inl y4_23), some (.inl y5_46), none]) rfl ?_
  refine v_iload C dX2_lookAtTicks_48 rfl ?_
  refine v_istore C dX2_lookAtTicks_50 (by decide) (Nat.le_of_ble_eq_true rfl) (lv' := [some (.inr (23, 0)), some (.inl x1), some (.inl x2), some (.inr (11, 7 * 1 + x1)), some (.inl y4_23), some (.inl y5_46), some (.inl y4_23)]) rfl ?_
  refine v_weak [some (.inr (23, 0)), some (.inl x1), some (.inl x2), none, none, some (.inl y5_46), some (.inl y4_23)] ⟨rfl, rfl, rfl, rfl, rfl, trivial⟩ ?_
  exact h
set_option maxHeartbeats 4000000 in
set_option maxRecDepth 20000 in
theorem sgX2_lookAtTicks_52 {κ : Kx} {K : Kont} {M : Mem} (C : Cx κ RX2 cX2_lookAtTicks 7 none rmX2_lookAtTicks domC) (x1 : Int) (x2 : Int) (x5 : Int) (x6 : Int)
    (h :
    ((x5 < x6 →
      K none M) ∧
     (¬ (x5 < x6) →
      spX4_whyNot 2 0 x1 x2 x6 M (rI (fun r71 M71 =>
      ((r71 ≠ 0 →
        inR (x6 + 1) ∧
        V κ 7 M71 52 [some (.inr (23, 0)), some (.inl x1), some (.inl x2), none, none, some (.inl x5), some (.inl (x6 + 1))] [] K) ∧
       (¬ (r71 ≠ 0) →
        spX2_offer x1 x2 x6 M71 (rV (fun M82 =>
        inR (x6 + 1) ∧
        V κ 7 M82 52 [some (.inr (23, 0)), some (.inl x1), some (.inl x2), none, none, some (.inl x5), some (.inl (x6 + 1))] [] K))))))))) : V κ 7 M 52 [some (.inr (23, 0)), some (.inl x1), some (.inl x2), none, none, some (.inl x5), some (.inl x6)] [] K := by
  refine v_iload C dX2_lookAtTicks_52 rfl ?_
  refine v_iload C dX2_lookAtTicks_54 rfl ?_
  refine v_icmp C dX2_lookAtTicks_56 (tgt := 91) (by decide) (P := x5 < x6) rfl (fun c56 => ?_) (fun c56 => ?_)
  · replace h := h.1 c56
    exact v_vret C dX2_lookAtTicks_91 h
  · replace h := h.2 c56
    refine v_aload_n C dX2_lookAtTicks_59 rfl ?_
    refine v_get C dX2_lookAtTicks_60 flX2_24 rfl (by decide) (by decide) (w := .inr (18, 2)) rfl ?_
    refine v_aload_n C dX2_lookAtTicks_63 rfl ?_
    refine v_get C dX2_lookAtTicks_64 flX2_15 rfl (by decide) (by decide) (w := .inr (14, 0)) rfl ?_
    refine v_iload_n C dX2_lookAtTicks_67 rfl ?_
    refine v_iload_n C dX2_lookAtTicks_68 rfl ?_
    refine v_iload C dX2_lookAtTicks_69 rfl ?_
    refine v_invV C ctX4_whyNot dX2_lookAtTicks_71 ivX2_111 ⟨by decide, by decide, rfl, rfl⟩ ((2, 0, x1, x2, x6) : Int × Int × Int × Int × Int) (As := [.inr (14, 0), .inl x1, .inl x2, .inl x6]) rfl rfl rfl (by decide) rfl (st := []) rfl (Nat.le_of_ble_eq_true rfl) h (fun o M71 oM71 io71 h => ?_)
    obtain ⟨r71, rfl, h⟩ := rI_out h
    refine v_push ?_
    refine v_if C dX2_lookAtTicks_74 (tgt := 85) (by decide) (P := r71 ≠ 0) rfl (fun c74 => ?_) (fun c74 => ?_)
    · replace h := h.1 c74
      refine v_iinc C dX2_lookAtTicks_85 (by decide) rfl h.1 (lv' := [some (.inr (23, 0)), some (.inl x1), some (.inl x2), none, none, some (.inl x5), some (.inl (x6 + 1))]) rfl ?_
      replace h := h.2
      refine v_goto C dX2_lookAtTicks_88 (tgt := 52) (by decide) ?_
      refine v_weak [some (.inr (23, 0)), some (.inl x1), some (.inl x2), none, none, some (.inl x5), some (.inl (x6 + 1))] ⟨rfl, rfl, rfl, rfl, rfl, trivial⟩ ?_
      exact h
    · replace h := h.2 c74
      refine v_aload_n C dX2_lookAtTicks_77 rfl ?_
      refine v_iload_n C dX2_lookAtTicks_78 rfl ?_
      refine v_iload_n C dX2_lookAtTicks_79 rfl ?_
      refine v_iload C dX2_lookAtTicks_80 rfl ?_
      refine v_invV C ctX2_offer dX2_lookAtTicks_82 ivX2_115 ⟨by decide, by decide, rfl, rfl⟩ ((x1, x2, x6) : Int × Int × Int) (As := [.inl x1, .inl x2, .inl x6]) rfl rfl rfl (by decide) rfl (st := []) rfl (Nat.le_of_ble_eq_true rfl) h (fun o M82 oM82 io82 h => ?_)
      obtain ⟨rfl, h⟩ := rV_out h
      refine v_push0 ?_
      refine v_iinc C dX2_lookAtTicks_85 (by decide) rfl h.1 (lv' := [some (.inr (23, 0)), some (.inl x1), some (.inl x2), none, none, some (.inl x5), some (.inl (x6 + 1))]) rfl ?_
      replace h := h.2
      refine v_goto C dX2_lookAtTicks_88 (tgt := 52) (by decide) ?_
      refine v_weak [some (.inr (23, 0)), some (.inl x1), some (.inl x2), none, none, some (.inl x5), some (.inl (x6 + 1))] ⟨rfl, rfl, rfl, rfl, rfl, trivial⟩ ?_
      exact h
abbrev spX2_lookAtTicks (p v : Int) (M : Mem) (K : Kont) : Prop := (WFf (cFilm M 1) ∧ TrB M 0 ∧ PlK (cFilm M 1) (M 19 2) (M 20 2) ∧ (0 ≤ p ∧ p < M 5 1 7) ∧ (0 ≤ v ∧ v < M 11 (7 * 1 + p) 4)) ∧
  ∀ M', AgF M M' → fnd M' = grT (cFilm M 1) (M 16 0) (M 17 0) (M 19 2) (M 20 2) p v (M 5 1 0).toNat (fnd M) → K none M'
theorem ctX2_lookAtTicks : CtX2_lookAtTicks spX2_lookAtTicks := by
  refine ct_of (by decide) dmC (fun _ => Nat.le_of_ble_eq_true rfl) ?_
  intro κ a M K C oM h
  obtain ⟨p, v⟩ := a
  dsimp only [spX2_lookAtTicks] at h
  obtain ⟨⟨hf, hb, hP, hp, hv⟩, hk⟩ := h
  have hw := wf_pv hf hp.1 hp.2 hv.1 hv.2
  simp only [cFilm] at hw
  have loop : ∀ (n : Nat) (t e : Int) (N : Mem), 0 ≤ t → t + n = e + 1 → e < M 5 1 0 → (∀ u : Int, e + 1 ≤ u → u < M 5 1 0 → whyW (cFilm M 1) (M 16 0) (M 19 2) (M 20 2) p v u ≠ 0) → AgF M N → fnd N = grT (cFilm M 1) (M 16 0) (M 17 0) (M 19 2) (M 20 2) p v t.toNat (fnd M) →
      V κ 7 N 52 [some (.inr (23, 0)), some (.inl p), some (.inl v), none, none, some (.inl e), some (.inl t)] [] K := by
    intro n
    induction n with
    | zero =>
      intro t e N h0 hn he hout hA hfn
      refine sgX2_lookAtTicks_52 C p v e t ⟨fun c => ?_, fun c => absurd (by omega) c⟩
      refine hk N hA ?_
      rw [hfn]
      symm
      refine grT_same _ _ _ (fun u a b => hout u (by omega) (by omega)) (by omega)
    | succ n ih =>
      intro t e N h0 hn he hout hA hfn
      have e1 := hA.film 1
      have r16 := hA.reg (r := 16) (by decide)
      have r17 := hA.reg (r := 17) (by decide)
      have r19 := hA.reg (r := 19) (by decide)
      have r20 := hA.reg (r := 20) (by decide)
      have r5 := hA.reg (r := 5) (by decide)
      have r11 := hA.reg (r := 11) (by decide)
      refine sgX2_lookAtTicks_52 C p v e t ⟨fun c => absurd c (by omega), fun c => ⟨⟨by rw [e1]; exact hf, by rw [e1, r19, r20]; exact hP, by rw [r5]; exact hp, by rw [r11]; exact hv, by rw [r5]; omega⟩, ?_, ?_⟩⟩
      · intro c2
        rw [e1, r16, r19, r20] at c2
        refine ⟨by omega, ih (t + 1) e N (by omega) (by omega) he hout hA ?_⟩
        rw [grT_s _ _ _ _ _ _ _ h0, hfn]
        unfold grO
        rw [if_neg c2]
      · intro c2
        rw [e1, r16, r19, r20] at c2
        have c2' : whyW (cFilm M 1) (M 16 0) (M 19 2) (M 20 2) p v t = 0 := by omega
        refine ⟨⟨by rw [e1]; exact hf, fun u a b => by rw [r16, r17]; exact hb u a b, by rw [r5]; exact hp, by rw [r11]; exact hv, by rw [r5]; omega⟩, ?_⟩
        intro N2 hA2 hfn2
        refine ⟨by omega, ih (t + 1) e N2 (by omega) (by omega) he hout (hA.tr hA2) ?_⟩
        rw [hfn2, e1, r17, hfn, grT_s _ _ _ _ _ _ _ h0]
        unfold grO
        rw [if_pos c2']
  refine sgX2_lookAtTicks_0 C p v ⟨by omega, by omega, fun y4 ey4 => ⟨by omega, by omega, fun y5 ey5 => ?_⟩⟩
  refine loop (y5 + 1 - y4).toNat y4 y5 M (by omega) (by omega) (by omega) ?_ AgF.rf ?_
  · intro u a b
    refine why_out (Or.inr ?_)
    show M 11 (7 * 1 + p) 0 + M 11 (7 * 1 + p) 2 < u
    omega
  · symm
    refine grT_same 0 y4.toNat _ (fun u a b => why_out (Or.inl ?_)) (by omega)
    show u < M 11 (7 * 1 + p) 0 - M 11 (7 * 1 + p) 1
    omega
/-! ===== GapTellings$GreedyFinder.findWorthiest ===== -/
abbrev rmX2_findWorthiest : Room := { frames := 4, cells := 0, slots := 0, locals := 99 }
abbrev argX2_findWorthiest (a : Unit) : List PV := [.inr (23, 0)]
abbrev CtX2_findWorthiest (sp : Mem → Kont → Prop) : Prop := Ct yX2_findWorthiest cX2_findWorthiest 3 none rmX2_findWorthiest domC argX2_findWorthiest (fun _ => sp)
theorem dX2_findWorthiest_0 : decode cX2_findWorthiest 0 = .ok (.aload_n 0, 1) := by decide +kernel
theorem dX2_findWorthiest_1 : decode cX2_findWorthiest 1 = .ok (.iconst 0, 1) := by decide +kernel
theorem dX2_findWorthiest_2 : decode cX2_findWorthiest 2 = .ok (.putfield 42, 3) := by decide +kernel
theorem dX2_findWorthiest_5 : decode cX2_findWorthiest 5 = .ok (.aload_n 0, 1) := by decide +kernel
theorem dX2_findWorthiest_6 : decode cX2_findWorthiest 6 = .ok (.iconst 0, 1) := by decide +kernel
theorem dX2_findWorthiest_7 : decode cX2_findWorthiest 7 = .ok (.putfield 45, 3) := by decide +kernel
theorem dX2_findWorthiest_10 : decode cX2_findWorthiest 10 = .ok (.iconst 0, 1) := by decide +kernel
theorem dX2_findWorthiest_11 : decode cX2_findWorthiest 11 = .ok (.istore_n 1, 1) := by decide +kernel
theorem dX2_findWorthiest_12 : decode cX2_findWorthiest 12 = .ok (.iload_n 1, 1) := by decide +kernel
theorem dX2_findWorthiest_13 : decode cX2_findWorthiest 13 = .ok (.aload_n 0, 1) := by decide +kernel
theorem dX2_findWorthiest_14 : decode cX2_findWorthiest 14 = .ok (.getfield 9, 3) := by decide +kernel
theorem dX2_findWorthiest_17 : decode cX2_findWorthiest 17 = .ok (.getfield 65, 3) := by decide +kernel
theorem dX2_findWorthiest_20 : decode cX2_findWorthiest 20 = .ok (.if_icmp .ge 88, 3) := by decide +kernel
theorem dX2_findWorthiest_23 : decode cX2_findWorthiest 23 = .ok (.aload_n 0, 1) := by decide +kernel
theorem dX2_findWorthiest_24 : decode cX2_findWorthiest 24 = .ok (.getfield 24, 3) := by decide +kernel
theorem dX2_findWorthiest_27 : decode cX2_findWorthiest 27 = .ok (.iload_n 1, 1) := by decide +kernel
theorem dX2_findWorthiest_28 : decode cX2_findWorthiest 28 = .ok (.invokevirtual 70, 3) := by decide +kernel
theorem dX2_findWorthiest_31 : decode cX2_findWorthiest 31 = .ok (.ifCond .eq 6, 3) := by decide +kernel
theorem dX2_findWorthiest_34 : decode cX2_findWorthiest 34 = .ok (.goto 68, 3) := by decide +kernel
theorem dX2_findWorthiest_37 : decode cX2_findWorthiest 37 = .ok (.iconst 0, 1) := by decide +kernel
theorem dX2_findWorthiest_38 : decode cX2_findWorthiest 38 = .ok (.istore_n 2, 1) := by decide +kernel
theorem dX2_findWorthiest_39 : decode cX2_findWorthiest 39 = .ok (.iload_n 2, 1) := by decide +kernel
theorem dX2_findWorthiest_40 : decode cX2_findWorthiest 40 = .ok (.aload_n 0, 1) := by decide +kernel
theorem dX2_findWorthiest_41 : decode cX2_findWorthiest 41 = .ok (.getfield 9, 3) := by decide +kernel
theorem dX2_findWorthiest_44 : decode cX2_findWorthiest 44 = .ok (.getfield 74, 3) := by decide +kernel
theorem dX2_findWorthiest_47 : decode cX2_findWorthiest 47 = .ok (.iload_n 1, 1) := by decide +kernel
theorem dX2_findWorthiest_48 : decode cX2_findWorthiest 48 = .ok (.aaload, 1) := by decide +kernel
theorem dX2_findWorthiest_49 : decode cX2_findWorthiest 49 = .ok (.getfield 78, 3) := by decide +kernel
theorem dX2_findWorthiest_52 : decode cX2_findWorthiest 52 = .ok (.if_icmp .ge 50, 3) := by decide +kernel
theorem dX2_findWorthiest_55 : decode cX2_findWorthiest 55 = .ok (.aload_n 0, 1) := by decide +kernel
theorem dX2_findWorthiest_56 : decode cX2_findWorthiest 56 = .ok (.getfield 35, 3) := by decide +kernel
theorem dX2_findWorthiest_59 : decode cX2_findWorthiest 59 = .ok (.aload_n 0, 1) := by decide +kernel
theorem dX2_findWorthiest_60 : decode cX2_findWorthiest 60 = .ok (.iload_n 1, 1) := by decide +kernel
theorem dX2_findWorthiest_61 : decode cX2_findWorthiest 61 = .ok (.iload_n 2, 1) := by decide +kernel
theorem dX2_findWorthiest_62 : decode cX2_findWorthiest 62 = .ok (.invokevirtual 61, 3) := by decide +kernel
theorem dX2_findWorthiest_65 : decode cX2_findWorthiest 65 = .ok (.iand, 1) := by decide +kernel
theorem dX2_findWorthiest_66 : decode cX2_findWorthiest 66 = .ok (.ifCond .ne 30, 3) := by decide +kernel
theorem dX2_findWorthiest_69 : decode cX2_findWorthiest 69 = .ok (.aload_n 0, 1) := by decide +kernel
theorem dX2_findWorthiest_70 : decode cX2_findWorthiest 70 = .ok (.getfield 9, 3) := by decide +kernel
theorem dX2_findWorthiest_73 : decode cX2_findWorthiest 73 = .ok (.getfield 74, 3) := by decide +kernel
theorem dX2_findWorthiest_76 : decode cX2_findWorthiest 76 = .ok (.iload_n 1, 1) := by decide +kernel
theorem dX2_findWorthiest_77 : decode cX2_findWorthiest 77 = .ok (.aaload, 1) := by decide +kernel
theorem dX2_findWorthiest_78 : decode cX2_findWorthiest 78 = .ok (.getfield 83, 3) := by decide +kernel
theorem dX2_findWorthiest_81 : decode cX2_findWorthiest 81 = .ok (.iload_n 2, 1) := by decide +kernel
theorem dX2_findWorthiest_82 : decode cX2_findWorthiest 82 = .ok (.iaload, 1) := by decide +kernel
theorem dX2_findWorthiest_83 : decode cX2_findWorthiest 83 = .ok (.aload_n 0, 1) := by decide +kernel
theorem dX2_findWorthiest_84 : decode cX2_findWorthiest 84 = .ok (.getfield 42, 3) := by decide +kernel
theorem dX2_findWorthiest_87 : decode cX2_findWorthiest 87 = .ok (.if_icmp .lt 9, 3) := by decide +kernel
theorem dX2_findWorthiest_90 : decode cX2_findWorthiest 90 = .ok (.aload_n 0, 1) := by decide +kernel
theorem dX2_findWorthiest_91 : decode cX2_findWorthiest 91 = .ok (.iload_n 1, 1) := by decide +kernel
theorem dX2_findWorthiest_92 : decode cX2_findWorthiest 92 = .ok (.iload_n 2, 1) := by decide +kernel
theorem dX2_findWorthiest_93 : decode cX2_findWorthiest 93 = .ok (.invokevirtual 87, 3) := by decide +kernel
theorem dX2_findWorthiest_96 : decode cX2_findWorthiest 96 = .ok (.iinc 2 1, 3) := by decide +kernel
theorem dX2_findWorthiest_99 : decode cX2_findWorthiest 99 = .ok (.goto (-60), 3) := by decide +kernel
theorem dX2_findWorthiest_102 : decode cX2_findWorthiest 102 = .ok (.iinc 1 1, 3) := by decide +kernel
theorem dX2_findWorthiest_105 : decode cX2_findWorthiest 105 = .ok (.goto (-93), 3) := by decide +kernel
theorem dX2_findWorthiest_108 : decode cX2_findWorthiest 108 = .ok (.return_, 1) := by decide +kernel
theorem flX2_65 : FL RX2 65 1 7 := ⟨_, _, _, rfl, by decide, uwX1, Or.inr ⟨"GapTellings", (nw_mem (t_in1 (List.mem_of_getElem? (i := 133) (by decide +kernel))) (by decide +kernel))⟩⟩
theorem ivX2_70 : IV RX2 70 yX4_has cX4_has 2 (some .boolean) 1 := ⟨(tb_mem (t_in4 (List.mem_of_getElem? (i := 72) (by decide +kernel))) (by decide +kernel)), (tb_mem (t_in3 (List.mem_of_getElem? (i := 54) (by decide +kernel))) (by decide +kernel)), (tb_mem (t_in3 (List.mem_of_getElem? (i := 55) (by decide +kernel))) (by decide +kernel)), (tb_mem (t_in1 (List.mem_of_getElem? (i := 6) (by decide +kernel))) (by decide +kernel)), (tb_mem (t_in3 (List.mem_of_getElem? (i := 56) (by decide +kernel))) (by decide +kernel)), ⟨by decide +kernel, by decide +kernel, by decide +kernel⟩⟩
theorem flX2_78 : FL RX2 78 3 4 := ⟨_, _, _, rfl, by decide, uwX3, Or.inr ⟨"GapTellings", (nw_mem (t_in1 (List.mem_of_getElem? (i := 80) (by decide +kernel))) (by decide +kernel))⟩⟩
theorem flX2_35 : FL RX2 35 2 4 := ⟨_, _, _, rfl, by decide, uwX2, Or.inl (tb_mem (t_in1 (List.mem_of_getElem? (i := 233) (by decide +kernel))) (by decide +kernel))⟩
theorem ivX2_61 : IV RX2 61 yX2_versionBit cX2_versionBit 3 (some .int) 2 := ⟨(tb_mem (t_in4 (List.mem_of_getElem? (i := 73) (by decide +kernel))) (by decide +kernel)), (tb_mem (t_in4 (List.mem_of_getElem? (i := 74) (by decide +kernel))) (by decide +kernel)), (tb_mem (t_in4 (List.mem_of_getElem? (i := 75) (by decide +kernel))) (by decide +kernel)), (tb_mem (t_in1 (List.mem_of_getElem? (i := 9) (by decide +kernel))) (by decide +kernel)), (tb_mem (t_in4 (List.mem_of_getElem? (i := 76) (by decide +kernel))) (by decide +kernel)), ⟨by decide +kernel, by decide +kernel, by decide +kernel⟩⟩
theorem ivX2_87 : IV RX2 87 yX2_lookAtTicks cX2_lookAtTicks 7 none 2 := ⟨(tb_mem (t_in4 (List.mem_of_getElem? (i := 77) (by decide +kernel))) (by decide +kernel)), (tb_mem (t_in4 (List.mem_of_getElem? (i := 78) (by decide +kernel))) (by decide +kernel)), (tb_mem (t_in4 (List.mem_of_getElem? (i := 79) (by decide +kernel))) (by decide +kernel)), (tb_mem (t_in1 (List.mem_of_getElem? (i := 9) (by decide +kernel))) (by decide +kernel)), (tb_mem (t_in4 (List.mem_of_getElem? (i := 80) (by decide +kernel))) (by decide +kernel)), ⟨by decide +kernel, by decide +kernel, by decide +kernel⟩⟩
set_option maxHeartbeats 4000000 in
set_option maxRecDepth 20000 in
theorem sgX2_findWorthiest_0 {κ : Kx} {K : Kont} {M : Mem} (C : Cx κ RX2 cX2_findWorthiest 3 none rmX2_findWorthiest domC) 
    (h :
    ∀ M2 : Mem, M2 = up3 M 23 0 8 0 →
    ∀ M7 : Mem, M7 = up3 M2 23 0 9 0 →
    V κ 3 M7 12 [some (.inr (23, 0)), some (.inl 0), none] [] K) : V κ 3 M 0 [some (.inr (23, 0)), none, none] [] K := by
  refine v_aload_n C dX2_findWorthiest_0 rfl ?_
  refine v_iconst C dX2_findWorthiest_1 (by decide) ?_
  refine v_put C dX2_findWorthiest_2 plX2_42 rfl (by decide) (by decide) rfl rfl rfl ?_
  refine v_nmM (fun M2 eM2 => ?_)
  replace h := h M2 eM2
  refine v_aload_n C dX2_findWorthiest_5 rfl ?_
  refine v_iconst C dX2_findWorthiest_6 (by decide) ?_
  refine v_put C dX2_findWorthiest_7 plX2_45 rfl (by decide) (by decide) rfl rfl rfl ?_
  refine v_nmM (fun M7 eM7 => ?_)
  replace h := h M7 eM7
  refine v_iconst C dX2_findWorthiest_10 (by decide) ?_
  refine v_istore_n C dX2_findWorthiest_11 (by decide) (Nat.le_of_ble_eq_true rfl) (lv' := [some (.inr (23, 0)), some (.inl 0), none]) rfl ?_
  refine v_weak [some (.inr (23, 0)), some (.inl 0), none] ⟨rfl, rfl, trivial⟩ ?_
  exact h
set_option maxHeartbeats 4000000 in
set_option maxRecDepth 20000 in
theorem sgX2_findWorthiest_12 {κ : Kx} {K : Kont} {M : Mem} (C : Cx κ RX2 cX2_findWorthiest 3 none rmX2_findWorthiest domC) (x1 : Int)
    (h :
    (((M 5 1 7) ≤ x1 →
      K none M) ∧
     (¬ ((M 5 1 7) ≤ x1) →
      spX4_has 2 x1 M (rI (fun r28 M28 =>
      ((r28 = 0 →
        V κ 3 M28 39 [some (.inr (23, 0)), some (.inl x1), some (.inl 0)] [] K) ∧
       (¬ (r28 = 0) →
        inR (x1 + 1) ∧
        V κ 3 M28 12 [some (.inr (23, 0)), some (.inl (x1 + 1)), none] [] K))))))) : V κ 3 M 12 [some (.inr (23, 0)), some (.inl x1), none] [] K := by
  refine v_iload_n C dX2_findWorthiest_12 rfl ?_
  refine v_aload_n C dX2_findWorthiest_13 rfl ?_
  refine v_get C dX2_findWorthiest_14 flX2_9 rfl (by decide) (by decide) (w := .inr (5, 1)) rfl ?_
  refine v_get C dX2_findWorthiest_17 flX2_65 rfl (by decide) (by decide) (w := .inl (M 5 1 7)) rfl ?_
  refine v_icmp C dX2_findWorthiest_20 (tgt := 108) (by decide) (P := (M 5 1 7) ≤ x1) rfl (fun c20 => ?_) (fun c20 => ?_)
  · replace h := h.1 c20
    exact v_vret C dX2_findWorthiest_108 h
  · replace h := h.2 c20
    refine v_aload_n C dX2_findWorthiest_23 rfl ?_
    refine v_get C dX2_findWorthiest_24 flX2_24 rfl (by decide) (by decide) (w := .inr (18, 2)) rfl ?_
    refine v_iload_n C dX2_findWorthiest_27 rfl ?_
    refine v_invV C ctX4_has dX2_findWorthiest_28 ivX2_70 ⟨by decide, by decide, rfl, rfl⟩ ((2, x1) : Int × Int) (As := [.inl x1]) rfl rfl rfl (by decide) rfl (st := []) rfl (Nat.le_of_ble_eq_true rfl) h (fun o M28 oM28 io28 h => ?_)
    obtain ⟨r28, rfl, h⟩ := rI_out h
    refine v_push ?_
    refine v_if C dX2_findWorthiest_31 (tgt := 37) (by decide) (P := r28 = 0) rfl (fun c31 => ?_) (fun c31 => ?_)
    · replace h := h.1 c31
      refine v_iconst C dX2_findWorthiest_37 (by decide) ?_
      refine v_istore_n C dX2_findWorthiest_38 (by decide) (Nat.le_of_ble_eq_true rfl) (lv' := [some (.inr (23, 0)), some (.inl x1), some (.inl 0)]) rfl ?_
      refine v_weak [some (.inr (23, 0)), some (.inl x1), some (.inl 0)] ⟨rfl, rfl, rfl, trivial⟩ ?_
      exact h
    · replace h := h.2 c31
      refine v_goto C dX2_findWorthiest_34 (tgt := 102) (by decide) ?_
      refine v_iinc C dX2_findWorthiest_102 (by decide) rfl h.1 (lv' := [some (.inr (23, 0)), some (.inl (x1 + 1)), none]) rfl ?_
      replace h := h.2
      refine v_goto C dX2_findWorthiest_105 (tgt := 12) (by decide) ?_
      refine v_weak [some (.inr (23, 0)), some (.inl (x1 + 1)), none] ⟨rfl, rfl, trivial⟩ ?_
      exact h
set_option maxHeartbeats 4000000 in
set_option maxRecDepth 20000 in
theorem sgX2_findWorthiest_39 {κ : Kx} {K : Kont} {M : Mem} (C : Cx κ RX2 cX2_findWorthiest 3 none rmX2_findWorthiest domC) (x1 : Int) (x2 : Int)
    (h :
    (0 ≤ x1 ∧ x1 < 7) ∧
    (((M 11 (7 * 1 + x1) 4) ≤ x2 →
      inR (x1 + 1) ∧
      V κ 3 M 12 [some (.inr (23, 0)), some (.inl (x1 + 1)), none] [] K) ∧
     (¬ ((M 11 (7 * 1 + x1) 4) ≤ x2) →
      spX2_versionBit x1 x2 M (rI (fun r62 M62 =>
      (((bAnd (M 23 0 4) r62) ≠ 0 →
        inR (x2 + 1) ∧
        V κ 3 M62 39 [some (.inr (23, 0)), some (.inl x1), some (.inl (x2 + 1))] [] K) ∧
       (¬ ((bAnd (M 23 0 4) r62) ≠ 0) →
        (0 ≤ x1 ∧ x1 < 7) ∧
        (0 ≤ x2 ∧ x2 < 3) ∧
        (((M62 13 (7 * 1 + x1) x2) < (M62 23 0 8) →
          inR (x2 + 1) ∧
          V κ 3 M62 39 [some (.inr (23, 0)), some (.inl x1), some (.inl (x2 + 1))] [] K) ∧
         (¬ ((M62 13 (7 * 1 + x1) x2) < (M62 23 0 8)) →
          spX2_lookAtTicks x1 x2 M62 (rV (fun M93 =>
          inR (x2 + 1) ∧
          V κ 3 M93 39 [some (.inr (23, 0)), some (.inl x1), some (.inl (x2 + 1))] [] K))))))))))) : V κ 3 M 39 [some (.inr (23, 0)), some (.inl x1), some (.inl x2)] [] K := by
  refine v_iload_n C dX2_findWorthiest_39 rfl ?_
  refine v_aload_n C dX2_findWorthiest_40 rfl ?_
  refine v_get C dX2_findWorthiest_41 flX2_9 rfl (by decide) (by decide) (w := .inr (5, 1)) rfl ?_
  refine v_get C dX2_findWorthiest_44 flX2_74 rfl (by decide) (by decide) (w := .inr (10, 1)) rfl ?_
  refine v_iload_n C dX2_findWorthiest_47 rfl ?_
  refine v_aald C dX2_findWorthiest_48 h.1.1 h.1.2 ?_
  replace h := h.2
  refine v_get C dX2_findWorthiest_49 flX2_78 rfl (by decide) (by decide) (w := .inl (M 11 (7 * 1 + x1) 4)) rfl ?_
  refine v_icmp C dX2_findWorthiest_52 (tgt := 102) (by decide) (P := (M 11 (7 * 1 + x1) 4) ≤ x2) rfl (fun c52 => ?_) (fun c52 => ?_)
  · replace h := h.1 c52
    refine v_iinc C dX2_findWorthiest_102 (by decide) rfl h.1 (lv' := [some (.inr (23, 0)), some (.inl (x1 + 1)), some (.inl x2)]) rfl ?_
    replace h := h.2
    refine v_goto C dX2_findWorthiest_105 (tgt := 12) (by decide) ?_
    refine v_weak [some (.inr (23, 0)), some (.inl (x1 + 1)), none] ⟨rfl, rfl, trivial⟩ ?_
    exact h
  · replace h := h.2 c52
    refine v_aload_n C dX2_findWorthiest_55 rfl ?_
    refine v_get C dX2_findWorthiest_56 flX2_35 rfl (by decide) (by decide) (w := .inl (M 23 0 4)) rfl ?_
    refine v_aload_n C dX2_findWorthiest_59 rfl ?_
    refine v_iload_n C dX2_findWorthiest_60 rfl ?_
    refine v_iload_n C dX2_findWorthiest_61 rfl ?_
    refine v_invV C ctX2_versionBit dX2_findWorthiest_62 ivX2_61 ⟨by decide, by decide, rfl, rfl⟩ ((x1, x2) : Int × Int) (As := [.inl x1, .inl x2]) rfl rfl rfl (by decide) rfl (st := [.inl (M 23 0 4)]) rfl (Nat.le_of_ble_eq_true rfl) h (fun o M62 oM62 io62 h => ?_)
    obtain ⟨r62, rfl, h⟩ := rI_out h
    refine v_push ?_
    refine v_iand C dX2_findWorthiest_65 ?_
    refine v_if C dX2_findWorthiest_66 (tgt := 96) (by decide) (P := (bAnd (M 23 0 4) r62) ≠ 0) rfl (fun c66 => ?_) (fun c66 => ?_)
    · replace h := h.1 c66
      refine v_iinc C dX2_findWorthiest_96 (by decide) rfl h.1 (lv' := [some (.inr (23, 0)), some (.inl x1), some (.inl (x2 + 1))]) rfl ?_
      replace h := h.2
      refine v_goto C dX2_findWorthiest_99 (tgt := 39) (by decide) ?_
      refine v_weak [some (.inr (23, 0)), some (.inl x1), some (.inl (x2 + 1))] ⟨rfl, rfl, rfl, trivial⟩ ?_
      exact h
    · replace h := h.2 c66
      refine v_aload_n C dX2_findWorthiest_69 rfl ?_
      refine v_get C dX2_findWorthiest_70 flX2_9 rfl (by decide) (by decide) (w := .inr (5, 1)) rfl ?_
      refine v_get C dX2_findWorthiest_73 flX2_74 rfl (by decide) (by decide) (w := .inr (10, 1)) rfl ?_
      refine v_iload_n C dX2_findWorthiest_76 rfl ?_
      refine v_aald C dX2_findWorthiest_77 h.1.1 h.1.2 ?_
      replace h := h.2
      refine v_get C dX2_findWorthiest_78 flX2_83 rfl (by decide) (by decide) (w := .inr (13, 7 * 1 + x1)) rfl ?_
      refine v_iload_n C dX2_findWorthiest_81 rfl ?_
      refine v_iald C dX2_findWorthiest_82 rfl h.1.1 h.1.2 ?_
      replace h := h.2
      refine v_aload_n C dX2_findWorthiest_83 rfl ?_
      refine v_get C dX2_findWorthiest_84 flX2_42 rfl (by decide) (by decide) (w := .inl (M62 23 0 8)) rfl ?_
      refine v_icmp C dX2_findWorthiest_87 (tgt := 96) (by decide) (P := (M62 13 (7 * 1 + x1) x2) < (M62 23 0 8)) rfl (fun c87 => ?_) (fun c87 => ?_)
      · replace h := h.1 c87
        refine v_iinc C dX2_findWorthiest_96 (by decide) rfl h.1 (lv' := [some (.inr (23, 0)), some (.inl x1), some (.inl (x2 + 1))]) rfl ?_
        replace h := h.2
        refine v_goto C dX2_findWorthiest_99 (tgt := 39) (by decide) ?_
        refine v_weak [some (.inr (23, 0)), some (.inl x1), some (.inl (x2 + 1))] ⟨rfl, rfl, rfl, trivial⟩ ?_
        exact h
      · replace h := h.2 c87
        refine v_aload_n C dX2_findWorthiest_90 rfl ?_
        refine v_iload_n C dX2_findWorthiest_91 rfl ?_
        refine v_iload_n C dX2_findWorthiest_92 rfl ?_
        refine v_invV C ctX2_lookAtTicks dX2_findWorthiest_93 ivX2_87 ⟨by decide, by decide, rfl, rfl⟩ ((x1, x2) : Int × Int) (As := [.inl x1, .inl x2]) rfl rfl rfl (by decide) rfl (st := []) rfl (Nat.le_of_ble_eq_true rfl) h (fun o M93 oM93 io93 h => ?_)
        obtain ⟨rfl, h⟩ := rV_out h
        refine v_push0 ?_
        refine v_iinc C dX2_findWorthiest_96 (by decide) rfl h.1 (lv' := [some (.inr (23, 0)), some (.inl x1), some (.inl (x2 + 1))]) rfl ?_
        replace h := h.2
        refine v_goto C dX2_findWorthiest_99 (tgt := 39) (by decide) ?_
        refine v_weak [some (.inr (23, 0)), some (.inl x1), some (.inl (x2 + 1))] ⟨rfl, rfl, rfl, trivial⟩ ?_
        exact h
def pzC (m : Int) : Int → Bool := fun k => bit m k
abbrev spX2_findWorthiest (M : Mem) (K : Kont) : Prop := (WFf (cFilm M 1) ∧ TrB M 0 ∧ PlK (cFilm M 1) (M 19 2) (M 20 2) ∧ (0 ≤ M 23 0 4 ∧ M 23 0 4 < 2147483648)) ∧
  ∀ M', AgF M M' → (M' 23 0 8 = (grP (cFilm M 1) (M 16 0) (M 17 0) (M 19 2) (M 20 2) (pzC (M 23 0 4)) (M 5 1 7).toNat).1 ∧ (M' 23 0 8 ≠ 0 → fnd M' = grP (cFilm M 1) (M 16 0) (M 17 0) (M 19 2) (M 20 2) (pzC (M 23 0 4)) (M 5 1 7).toNat)) → K none M'
/-- found things agree, as far as they count -/
def fEq (a b : gSt) : Prop := a.1 = b.1 ∧ a.2.1 = b.2.1 ∧ (a.1 ≠ 0 → a = b)
theorem fEq_off {F : Film} {Q : Int → Int} {p v t : Int} {a b : gSt} (hw : 1 ≤ F 14 p v) (h : fEq a b) : fEq (offS F Q p v t a) (offS F Q p v t b) := by
  obtain ⟨h1, h2, h3⟩ := h
  unfold offS
  rw [h1, h2]
  split
  · exact ⟨rfl, rfl, fun _ => rfl⟩
  · exact ⟨h1, h2, h3⟩
theorem fEq_T {F : Film} {S Q ver sta : Int → Int} {p v : Int} (hw : 1 ≤ F 14 p v) : ∀ (n : Nat) (a b : gSt), fEq a b → fEq (grT F S Q ver sta p v n a) (grT F S Q ver sta p v n b) := by
  intro n
  induction n with
  | zero => intro a b h; exact h
  | succ n ih =>
    intro a b h
    show fEq (grO F S Q ver sta p v n _) (grO F S Q ver sta p v n _)
    unfold grO
    split
    · exact fEq_off hw (ih a b h)
    · exact ih a b h
theorem ctX2_findWorthiest : CtX2_findWorthiest spX2_findWorthiest := by
  refine ct_of (by decide) dmC (fun _ => Nat.le_of_ble_eq_true rfl) ?_
  intro κ a M K C oM h
  dsimp only [spX2_findWorthiest] at h
  obtain ⟨⟨hf, hb, hP, hm⟩, hk⟩ := h
  have hnP := hf.2.2.2.1
  simp only [cFilm] at hnP
  generalize hF : cFilm M 1 = F at *
  have e37 : F 3 0 0 = M 5 1 7 := by rw [← hF]; rfl
  have outer : ∀ (n : Nat) (p : Int) (N : Mem), 0 ≤ p → p + n = M 5 1 7 → AgF M N → fEq (fnd N) (grP F (M 16 0) (M 17 0) (M 19 2) (M 20 2) (pzC (M 23 0 4)) p.toNat) →
      V κ 3 N 12 [some (.inr (23, 0)), some (.inl p), none] [] K := by
    intro n
    induction n with
    | zero =>
      intro p N h0 hn hA hfn
      have r5 := hA.reg (r := 5) (by decide)
      refine sgX2_findWorthiest_12 C p ⟨fun c => ?_, fun c => absurd (by rw [r5]; omega) c⟩
      have ep : p = M 5 1 7 := by omega
      rw [ep] at hfn
      exact hk N hA ⟨hfn.1, hfn.2.2⟩
    | succ n ih =>
      intro p N h0 hn hA hfn
      have r5 := hA.reg (r := 5) (by decide)
      have r19 := hA.reg (r := 19) (by decide)
      have w := wf_p hf h0 (by omega)
      have gs : grP F (M 16 0) (M 17 0) (M 19 2) (M 20 2) (pzC (M 23 0 4)) (p + 1).toNat = if M 19 2 p = -4 then grV F (M 16 0) (M 17 0) (M 19 2) (M 20 2) (pzC (M 23 0 4)) p (F 11 p 0).toNat (grP F (M 16 0) (M 17 0) (M 19 2) (M 20 2) (pzC (M 23 0 4)) p.toNat) else grP F (M 16 0) (M 17 0) (M 19 2) (M 20 2) (pzC (M 23 0 4)) p.toNat := by
        rw [toNat_s h0]
        show (if M 19 2 (p.toNat : Int) = -4 then grV F (M 16 0) (M 17 0) (M 19 2) (M 20 2) (pzC (M 23 0 4)) (p.toNat : Int) (F 11 (p.toNat : Int) 0).toNat _ else _) = _
        rw [oi_nat h0]
      refine sgX2_findWorthiest_12 C p ⟨fun c => absurd c (by rw [r5]; omega), fun c => ⟨⟨h0, by omega⟩, fun c2 => ?_, fun c2 => ⟨by omega, ?_⟩⟩⟩
      · have c3 := if01 c2
        rw [r19] at c3
        rw [if_pos c3] at gs
        have inner : ∀ (n2 : Nat) (v : Int) (N2 : Mem), 0 ≤ v → v + n2 = F 11 p 0 → AgF M N2 → fEq (fnd N2) (grV F (M 16 0) (M 17 0) (M 19 2) (M 20 2) (pzC (M 23 0 4)) p v.toNat (grP F (M 16 0) (M 17 0) (M 19 2) (M 20 2) (pzC (M 23 0 4)) p.toNat)) →
            V κ 3 N2 39 [some (.inr (23, 0)), some (.inl p), some (.inl v)] [] K := by
          intro n2
          induction n2 with
          | zero =>
            intro v N2 v0 vn hA2 hf2
            have r11 := hA2.reg (r := 11) (by decide)
            have e11 : F 11 p 0 = N2 11 (7 * 1 + p) 4 := by rw [r11, ← hF]; rfl
            refine sgX2_findWorthiest_39 C p v ⟨by omega, fun c4 => ⟨by omega, ?_⟩, fun c4 => absurd (by omega) c4⟩
            refine ih (p + 1) N2 (by omega) (by omega) hA2 ?_
            rw [gs]
            have ev : v = F 11 p 0 := by omega
            rw [ev] at hf2
            exact hf2
          | succ n2 ih2 =>
            intro v N2 v0 vn hA2 hf2
            have e1 := hA2.film 1
            rw [hF] at e1
            have r11 := hA2.reg (r := 11) (by decide)
            have r13 := hA2.reg (r := 13) (by decide)
            have q16 := hA2.reg (r := 16) (by decide)
            have q17 := hA2.reg (r := 17) (by decide)
            have q19 := hA2.reg (r := 19) (by decide)
            have q20 := hA2.reg (r := 20) (by decide)
            have q5 := hA2.reg (r := 5) (by decide)
            have q4 : N2 23 0 4 = M 23 0 4 := hA2 23 0 4 (by omega)
            have e11 : F 11 p 0 = N2 11 (7 * 1 + p) 4 := by rw [r11, ← hF]; rfl
            have e14 : F 14 p v = N2 13 (7 * 1 + p) v := by rw [r13, ← hF]; rfl
            have wv := wf_pv hf h0 (by omega) v0 (by omega)
            have vs : grV F (M 16 0) (M 17 0) (M 19 2) (M 20 2) (pzC (M 23 0 4)) p (v + 1).toNat (grP F (M 16 0) (M 17 0) (M 19 2) (M 20 2) (pzC (M 23 0 4)) p.toNat) = if bit (M 23 0 4) (p * 3 + v) then grV F (M 16 0) (M 17 0) (M 19 2) (M 20 2) (pzC (M 23 0 4)) p v.toNat (grP F (M 16 0) (M 17 0) (M 19 2) (M 20 2) (pzC (M 23 0 4)) p.toNat) else grT F (M 16 0) (M 17 0) (M 19 2) (M 20 2) p v (F 0 0 0).toNat (grV F (M 16 0) (M 17 0) (M 19 2) (M 20 2) (pzC (M 23 0 4)) p v.toNat (grP F (M 16 0) (M 17 0) (M 19 2) (M 20 2) (pzC (M 23 0 4)) p.toNat)) := by
              rw [toNat_s v0]
              show (if bit (M 23 0 4) (p * 3 + (v.toNat : Int)) then _ else grT F (M 16 0) (M 17 0) (M 19 2) (M 20 2) p (v.toNat : Int) (F 0 0 0).toNat _) = _
              rw [oi_nat v0]
            refine sgX2_findWorthiest_39 C p v ⟨by omega, fun c4 => absurd c4 (by omega), fun c4 => ⟨by omega, ?_, ?_⟩⟩
            · intro c5
              refine ⟨by omega, ih2 (v + 1) N2 (by omega) (by omega) hA2 ?_⟩
              rw [vs, if_pos]
              · exact hf2
              · rw [q4] at c5
                have := and_bit hm.1 hm.2 (k := p * 3 + v) (by omega) (by omega)
                cases hbt : bit (M 23 0 4) (p * 3 + v)
                · exact absurd (this.mpr hbt) c5
                · rfl
            · intro c5
              have hbit : bit (M 23 0 4) (p * 3 + v) = false := by
                rw [q4] at c5
                exact (and_bit hm.1 hm.2 (k := p * 3 + v) (by omega) (by omega)).mp (by omega)
              rw [hbit] at vs
              simp only [Bool.false_eq_true, if_false] at vs
              refine ⟨by omega, by omega, fun c6 => ⟨by omega, ?_⟩, fun c6 => ⟨⟨by rw [e1]; exact hf, fun u a b => by rw [q16, q17]; exact hb u a b, by rw [e1, q19, q20]; exact hP, by rw [q5]; omega, by omega⟩, ?_⟩⟩
              · refine ih2 (v + 1) N2 (by omega) (by omega) hA2 ?_
                rw [vs, grT_low]
                · exact hf2
                · rw [← hf2.1, e14]
                  exact c6
              · intro N3 hA3 hf3
                refine ⟨by omega, ih2 (v + 1) N3 (by omega) (by omega) (hA2.tr hA3) ?_⟩
                rw [vs, hf3, e1, q16, q17, q19, q20, q5]
                have e0 : (F 0 0 0).toNat = (M 5 1 0).toNat := by rw [← hF]; rfl
                rw [e0]
                exact fEq_T wv.2.2.2.2.2.2.2.1 _ _ _ hf2
        exact inner (F 11 p 0).toNat 0 N (by omega) (by omega) hA hfn
      · have c3 := if01n c2
        rw [r19] at c3
        rw [if_neg c3] at gs
        exact ih (p + 1) N (by omega) (by omega) hA (by rw [gs]; exact hfn)
  refine sgX2_findWorthiest_0 C (fun M2 e2 M7 e7 => ?_)
  refine outer (M 5 1 7).toNat 0 M7 (by omega) (by omega) ?_ ?_
  · rw [e7, e2]
    exact (AgF.rf.up (by decide) (by decide)).up (by decide) (by decide)
  · refine ⟨?_, ?_, ?_⟩
    · show M7 23 0 8 = 0
      rw [e7, e2]
      simp [up3]
    · show M7 23 0 9 = 0
      rw [e7, e2]
      simp [up3]
    · intro z
      exact absurd (by show M7 23 0 8 = 0; rw [e7, e2]; simp [up3]) z
end
section
/-! ===== GreedyFinder.fillPlan ===== -/
/-! ===== GapTellings$GreedyFinder.fillPlan ===== -/
abbrev rmX2_fillPlan : Room := { frames := 5, cells := 0, slots := 0, locals := 121 }
abbrev argX2_fillPlan (a : Unit) : List PV := [.inr (23, 0)]
abbrev CtX2_fillPlan (sp : Mem → Kont → Prop) : Prop := Ct yX2_fillPlan cX2_fillPlan 2 none rmX2_fillPlan domC argX2_fillPlan (fun _ => sp)
theorem dX2_fillPlan_0 : decode cX2_fillPlan 0 = .ok (.aload_n 0, 1) := by decide +kernel
theorem dX2_fillPlan_1 : decode cX2_fillPlan 1 = .ok (.getfield 28, 3) := by decide +kernel
theorem dX2_fillPlan_4 : decode cX2_fillPlan 4 = .ok (.ifCond .eq 4, 3) := by decide +kernel
theorem dX2_fillPlan_7 : decode cX2_fillPlan 7 = .ok (.return_, 1) := by decide +kernel
theorem dX2_fillPlan_8 : decode cX2_fillPlan 8 = .ok (.aload_n 0, 1) := by decide +kernel
theorem dX2_fillPlan_9 : decode cX2_fillPlan 9 = .ok (.iconst 1, 1) := by decide +kernel
theorem dX2_fillPlan_10 : decode cX2_fillPlan 10 = .ok (.putfield 28, 3) := by decide +kernel
theorem dX2_fillPlan_13 : decode cX2_fillPlan 13 = .ok (.aload_n 0, 1) := by decide +kernel
theorem dX2_fillPlan_14 : decode cX2_fillPlan 14 = .ok (.getfield 24, 3) := by decide +kernel
theorem dX2_fillPlan_17 : decode cX2_fillPlan 17 = .ok (.invokevirtual 32, 3) := by decide +kernel
theorem dX2_fillPlan_20 : decode cX2_fillPlan 20 = .ok (.aload_n 0, 1) := by decide +kernel
theorem dX2_fillPlan_21 : decode cX2_fillPlan 21 = .ok (.iconst 0, 1) := by decide +kernel
theorem dX2_fillPlan_22 : decode cX2_fillPlan 22 = .ok (.putfield 35, 3) := by decide +kernel
theorem dX2_fillPlan_25 : decode cX2_fillPlan 25 = .ok (.iconst 0, 1) := by decide +kernel
theorem dX2_fillPlan_26 : decode cX2_fillPlan 26 = .ok (.istore_n 1, 1) := by decide +kernel
theorem dX2_fillPlan_27 : decode cX2_fillPlan 27 = .ok (.iload_n 1, 1) := by decide +kernel
theorem dX2_fillPlan_28 : decode cX2_fillPlan 28 = .ok (.bipush 21, 2) := by decide +kernel
theorem dX2_fillPlan_30 : decode cX2_fillPlan 30 = .ok (.if_icmp .gt 71, 3) := by decide +kernel
theorem dX2_fillPlan_33 : decode cX2_fillPlan 33 = .ok (.aload_n 0, 1) := by decide +kernel
theorem dX2_fillPlan_34 : decode cX2_fillPlan 34 = .ok (.invokevirtual 39, 3) := by decide +kernel
theorem dX2_fillPlan_37 : decode cX2_fillPlan 37 = .ok (.aload_n 0, 1) := by decide +kernel
theorem dX2_fillPlan_38 : decode cX2_fillPlan 38 = .ok (.getfield 42, 3) := by decide +kernel
theorem dX2_fillPlan_41 : decode cX2_fillPlan 41 = .ok (.ifCond .ne 4, 3) := by decide +kernel
theorem dX2_fillPlan_44 : decode cX2_fillPlan 44 = .ok (.return_, 1) := by decide +kernel
theorem dX2_fillPlan_45 : decode cX2_fillPlan 45 = .ok (.aload_n 0, 1) := by decide +kernel
theorem dX2_fillPlan_46 : decode cX2_fillPlan 46 = .ok (.getfield 45, 3) := by decide +kernel
theorem dX2_fillPlan_49 : decode cX2_fillPlan 49 = .ok (.ifCond .le 25, 3) := by decide +kernel
theorem dX2_fillPlan_52 : decode cX2_fillPlan 52 = .ok (.aload_n 0, 1) := by decide +kernel
theorem dX2_fillPlan_53 : decode cX2_fillPlan 53 = .ok (.getfield 24, 3) := by decide +kernel
theorem dX2_fillPlan_56 : decode cX2_fillPlan 56 = .ok (.aload_n 0, 1) := by decide +kernel
theorem dX2_fillPlan_57 : decode cX2_fillPlan 57 = .ok (.getfield 48, 3) := by decide +kernel
theorem dX2_fillPlan_60 : decode cX2_fillPlan 60 = .ok (.aload_n 0, 1) := by decide +kernel
theorem dX2_fillPlan_61 : decode cX2_fillPlan 61 = .ok (.getfield 51, 3) := by decide +kernel
theorem dX2_fillPlan_64 : decode cX2_fillPlan 64 = .ok (.aload_n 0, 1) := by decide +kernel
theorem dX2_fillPlan_65 : decode cX2_fillPlan 65 = .ok (.getfield 54, 3) := by decide +kernel
theorem dX2_fillPlan_68 : decode cX2_fillPlan 68 = .ok (.invokevirtual 57, 3) := by decide +kernel
theorem dX2_fillPlan_71 : decode cX2_fillPlan 71 = .ok (.goto 24, 3) := by decide +kernel
theorem dX2_fillPlan_74 : decode cX2_fillPlan 74 = .ok (.aload_n 0, 1) := by decide +kernel
theorem dX2_fillPlan_75 : decode cX2_fillPlan 75 = .ok (.dup, 1) := by decide +kernel
theorem dX2_fillPlan_76 : decode cX2_fillPlan 76 = .ok (.getfield 35, 3) := by decide +kernel
theorem dX2_fillPlan_79 : decode cX2_fillPlan 79 = .ok (.aload_n 0, 1) := by decide +kernel
theorem dX2_fillPlan_80 : decode cX2_fillPlan 80 = .ok (.aload_n 0, 1) := by decide +kernel
theorem dX2_fillPlan_81 : decode cX2_fillPlan 81 = .ok (.getfield 48, 3) := by decide +kernel
theorem dX2_fillPlan_84 : decode cX2_fillPlan 84 = .ok (.aload_n 0, 1) := by decide +kernel
theorem dX2_fillPlan_85 : decode cX2_fillPlan 85 = .ok (.getfield 51, 3) := by decide +kernel
theorem dX2_fillPlan_88 : decode cX2_fillPlan 88 = .ok (.invokevirtual 61, 3) := by decide +kernel
theorem dX2_fillPlan_91 : decode cX2_fillPlan 91 = .ok (.ior, 1) := by decide +kernel
theorem dX2_fillPlan_92 : decode cX2_fillPlan 92 = .ok (.putfield 35, 3) := by decide +kernel
theorem dX2_fillPlan_95 : decode cX2_fillPlan 95 = .ok (.iinc 1 1, 3) := by decide +kernel
theorem dX2_fillPlan_98 : decode cX2_fillPlan 98 = .ok (.goto (-71), 3) := by decide +kernel
theorem dX2_fillPlan_101 : decode cX2_fillPlan 101 = .ok (.return_, 1) := by decide +kernel
theorem flX2_28 : FL RX2 28 2 3 := ⟨_, _, _, rfl, by decide, uwX2, Or.inl (tb_mem (t_in1 (List.mem_of_getElem? (i := 231) (by decide +kernel))) (by decide +kernel))⟩
theorem plX2_28 : PL RX2 28 2 3 .boolean := ⟨_, _, _, rfl, by decide, uwX2, Or.inl (tb_mem (t_in1 (List.mem_of_getElem? (i := 231) (by decide +kernel))) (by decide +kernel)), rfl, by decide +kernel, tyX2, tyX2_ok, nmX2⟩
theorem ivX2_32 : IV RX2 32 yX4_clear cX4_clear 1 none 0 := ⟨(tb_mem (t_in4 (List.mem_of_getElem? (i := 67) (by decide +kernel))) (by decide +kernel)), (tb_mem (t_in2 (List.mem_of_getElem? (i := 195) (by decide +kernel))) (by decide +kernel)), (tb_mem (t_in2 (List.mem_of_getElem? (i := 196) (by decide +kernel))) (by decide +kernel)), (tb_mem (t_in1 (List.mem_of_getElem? (i := 6) (by decide +kernel))) (by decide +kernel)), (tb_mem (t_in2 (List.mem_of_getElem? (i := 197) (by decide +kernel))) (by decide +kernel)), ⟨by decide +kernel, by decide +kernel, by decide +kernel⟩⟩
theorem plX2_35 : PL RX2 35 2 4 .int := ⟨_, _, _, rfl, by decide, uwX2, Or.inl (tb_mem (t_in1 (List.mem_of_getElem? (i := 233) (by decide +kernel))) (by decide +kernel)), rfl, by decide +kernel, tyX2, tyX2_ok, nmX2⟩
theorem ivX2_39 : IV RX2 39 yX2_findWorthiest cX2_findWorthiest 3 none 0 := ⟨(tb_mem (t_in4 (List.mem_of_getElem? (i := 68) (by decide +kernel))) (by decide +kernel)), (tb_mem (t_in4 (List.mem_of_getElem? (i := 69) (by decide +kernel))) (by decide +kernel)), (tb_mem (t_in4 (List.mem_of_getElem? (i := 70) (by decide +kernel))) (by decide +kernel)), (tb_mem (t_in1 (List.mem_of_getElem? (i := 9) (by decide +kernel))) (by decide +kernel)), (tb_mem (t_in4 (List.mem_of_getElem? (i := 71) (by decide +kernel))) (by decide +kernel)), ⟨by decide +kernel, by decide +kernel, by decide +kernel⟩⟩
theorem flX2_48 : FL RX2 48 2 5 := ⟨_, _, _, rfl, by decide, uwX2, Or.inl (tb_mem (t_in1 (List.mem_of_getElem? (i := 234) (by decide +kernel))) (by decide +kernel))⟩
theorem flX2_51 : FL RX2 51 2 6 := ⟨_, _, _, rfl, by decide, uwX2, Or.inl (tb_mem (t_in1 (List.mem_of_getElem? (i := 235) (by decide +kernel))) (by decide +kernel))⟩
theorem flX2_54 : FL RX2 54 2 7 := ⟨_, _, _, rfl, by decide, uwX2, Or.inl (tb_mem (t_in1 (List.mem_of_getElem? (i := 236) (by decide +kernel))) (by decide +kernel))⟩
theorem ivX2_57 : IV RX2 57 yX4_put cX4_put 4 none 3 := ⟨(tb_mem (t_in4 (List.mem_of_getElem? (i := 89) (by decide +kernel))) (by decide +kernel)), (tb_mem (t_in3 (List.mem_of_getElem? (i := 116) (by decide +kernel))) (by decide +kernel)), (tb_mem (t_in3 (List.mem_of_getElem? (i := 117) (by decide +kernel))) (by decide +kernel)), (tb_mem (t_in1 (List.mem_of_getElem? (i := 6) (by decide +kernel))) (by decide +kernel)), (tb_mem (t_in3 (List.mem_of_getElem? (i := 118) (by decide +kernel))) (by decide +kernel)), ⟨by decide +kernel, by decide +kernel, by decide +kernel⟩⟩
set_option maxHeartbeats 4000000 in
set_option maxRecDepth 20000 in
theorem sgX2_fillPlan_0 {κ : Kx} {K : Kont} {M : Mem} (C : Cx κ RX2 cX2_fillPlan 2 none rmX2_fillPlan domC) 
    (h :
    (((M 23 0 3) = 0 →
      ∀ M10 : Mem, M10 = up3 M 23 0 3 1 →
      spX4_clear 2 M10 (rV (fun M17 =>
      ∀ M22 : Mem, M22 = up3 M17 23 0 4 0 →
      V κ 2 M22 27 [some (.inr (23, 0)), some (.inl 0)] [] K))) ∧
     (¬ ((M 23 0 3) = 0) →
      K none M))) : V κ 2 M 0 [some (.inr (23, 0)), none] [] K := by
  refine v_aload_n C dX2_fillPlan_0 rfl ?_
  refine v_get C dX2_fillPlan_1 flX2_28 rfl (by decide) (by decide) (w := .inl (M 23 0 3)) rfl ?_
  refine v_if C dX2_fillPlan_4 (tgt := 8) (by decide) (P := (M 23 0 3) = 0) rfl (fun c4 => ?_) (fun c4 => ?_)
  · replace h := h.1 c4
    refine v_aload_n C dX2_fillPlan_8 rfl ?_
    refine v_iconst C dX2_fillPlan_9 (by decide) ?_
    refine v_put C dX2_fillPlan_10 plX2_28 rfl (by decide) (by decide) rfl rfl rfl ?_
    refine v_nmM (fun M10 eM10 => ?_)
    replace h := h M10 eM10
    refine v_aload_n C dX2_fillPlan_13 rfl ?_
    refine v_get C dX2_fillPlan_14 flX2_24 rfl (by decide) (by decide) (w := .inr (18, 2)) rfl ?_
    refine v_invV C ctX4_clear dX2_fillPlan_17 ivX2_32 ⟨by decide, by decide, rfl, rfl⟩ (2 : Int) (As := []) rfl rfl rfl (by decide) rfl (st := []) rfl (Nat.le_of_ble_eq_true rfl) h (fun o M17 oM17 io17 h => ?_)
    obtain ⟨rfl, h⟩ := rV_out h
    refine v_push0 ?_
    refine v_aload_n C dX2_fillPlan_20 rfl ?_
    refine v_iconst C dX2_fillPlan_21 (by decide) ?_
    refine v_put C dX2_fillPlan_22 plX2_35 rfl (by decide) (by decide) rfl rfl rfl ?_
    refine v_nmM (fun M22 eM22 => ?_)
    replace h := h M22 eM22
    refine v_iconst C dX2_fillPlan_25 (by decide) ?_
    refine v_istore_n C dX2_fillPlan_26 (by decide) (Nat.le_of_ble_eq_true rfl) (lv' := [some (.inr (23, 0)), some (.inl 0)]) rfl ?_
    refine v_weak [some (.inr (23, 0)), some (.inl 0)] ⟨rfl, rfl, trivial⟩ ?_
    exact h
  · replace h := h.2 c4
    exact v_vret C dX2_fillPlan_7 h
set_option maxHeartbeats 4000000 in
set_option maxRecDepth 20000 in
theorem sgX2_fillPlan_27 {κ : Kx} {K : Kont} {M : Mem} (C : Cx κ RX2 cX2_fillPlan 2 none rmX2_fillPlan domC) (x1 : Int)
    (h :
    ((21 < x1 →
      K none M) ∧
     (¬ (21 < x1) →
      spX2_findWorthiest M (rV (fun M34 =>
      (((M34 23 0 8) ≠ 0 →
        (((M34 23 0 9) ≤ 0 →
          spX2_versionBit (M34 23 0 5) (M34 23 0 6) M34 (rI (fun r88 M88 =>
          ∀ M92 : Mem, M92 = up3 M88 23 0 4 (bOr (M34 23 0 4) r88) →
          inR (x1 + 1) ∧
          V κ 2 M92 27 [some (.inr (23, 0)), some (.inl (x1 + 1))] [] K))) ∧
         (¬ ((M34 23 0 9) ≤ 0) →
          spX4_put 2 (M34 23 0 5) (M34 23 0 6) (M34 23 0 7) M34 (rV (fun M68 =>
          inR (x1 + 1) ∧
          V κ 2 M68 27 [some (.inr (23, 0)), some (.inl (x1 + 1))] [] K))))) ∧
       (¬ ((M34 23 0 8) ≠ 0) →
        K none M34))))))) : V κ 2 M 27 [some (.inr (23, 0)), some (.inl x1)] [] K := by
  refine v_iload_n C dX2_fillPlan_27 rfl ?_
  refine v_bipush C dX2_fillPlan_28 (by decide) (by decide) ?_
  refine v_icmp C dX2_fillPlan_30 (tgt := 101) (by decide) (P := 21 < x1) rfl (fun c30 => ?_) (fun c30 => ?_)
  · replace h := h.1 c30
    exact v_vret C dX2_fillPlan_101 h
  · replace h := h.2 c30
    refine v_aload_n C dX2_fillPlan_33 rfl ?_
    refine v_invV C ctX2_findWorthiest dX2_fillPlan_34 ivX2_39 ⟨by decide, by decide, rfl, rfl⟩ (() : Unit) (As := []) rfl rfl rfl (by decide) rfl (st := []) rfl (Nat.le_of_ble_eq_true rfl) h (fun o M34 oM34 io34 h => ?_)
    obtain ⟨rfl, h⟩ := rV_out h
    refine v_push0 ?_
    refine v_aload_n C dX2_fillPlan_37 rfl ?_
    refine v_get C dX2_fillPlan_38 flX2_42 rfl (by decide) (by decide) (w := .inl (M34 23 0 8)) rfl ?_
    refine v_if C dX2_fillPlan_41 (tgt := 45) (by decide) (P := (M34 23 0 8) ≠ 0) rfl (fun c41 => ?_) (fun c41 => ?_)
    · replace h := h.1 c41
      refine v_aload_n C dX2_fillPlan_45 rfl ?_
      refine v_get C dX2_fillPlan_46 flX2_45 rfl (by decide) (by decide) (w := .inl (M34 23 0 9)) rfl ?_
      refine v_if C dX2_fillPlan_49 (tgt := 74) (by decide) (P := (M34 23 0 9) ≤ 0) rfl (fun c49 => ?_) (fun c49 => ?_)
      · replace h := h.1 c49
        refine v_aload_n C dX2_fillPlan_74 rfl ?_
        refine v_dup C dX2_fillPlan_75 ?_
        refine v_get C dX2_fillPlan_76 flX2_35 rfl (by decide) (by decide) (w := .inl (M34 23 0 4)) rfl ?_
        refine v_aload_n C dX2_fillPlan_79 rfl ?_
        refine v_aload_n C dX2_fillPlan_80 rfl ?_
        refine v_get C dX2_fillPlan_81 flX2_48 rfl (by decide) (by decide) (w := .inl (M34 23 0 5)) rfl ?_
        refine v_aload_n C dX2_fillPlan_84 rfl ?_
        refine v_get C dX2_fillPlan_85 flX2_51 rfl (by decide) (by decide) (w := .inl (M34 23 0 6)) rfl ?_
        refine v_invV C ctX2_versionBit dX2_fillPlan_88 ivX2_61 ⟨by decide, by decide, rfl, rfl⟩ ((M34 23 0 5, M34 23 0 6) : Int × Int) (As := [.inl (M34 23 0 5), .inl (M34 23 0 6)]) rfl rfl rfl (by decide) rfl (st := [.inl (M34 23 0 4), .inr (23, 0)]) rfl (Nat.le_of_ble_eq_true rfl) h (fun o M88 oM88 io88 h => ?_)
        obtain ⟨r88, rfl, h⟩ := rI_out h
        refine v_push ?_
        refine v_ior C dX2_fillPlan_91 ?_
        refine v_put C dX2_fillPlan_92 plX2_35 rfl (by decide) (by decide) rfl rfl rfl ?_
        refine v_nmM (fun M92 eM92 => ?_)
        replace h := h M92 eM92
        refine v_iinc C dX2_fillPlan_95 (by decide) rfl h.1 (lv' := [some (.inr (23, 0)), some (.inl (x1 + 1))]) rfl ?_
        replace h := h.2
        refine v_goto C dX2_fillPlan_98 (tgt := 27) (by decide) ?_
        refine v_weak [some (.inr (23, 0)), some (.inl (x1 + 1))] ⟨rfl, rfl, trivial⟩ ?_
        exact h
      · replace h := h.2 c49
        refine v_aload_n C dX2_fillPlan_52 rfl ?_
        refine v_get C dX2_fillPlan_53 flX2_24 rfl (by decide) (by decide) (w := .inr (18, 2)) rfl ?_
        refine v_aload_n C dX2_fillPlan_56 rfl ?_
        refine v_get C dX2_fillPlan_57 flX2_48 rfl (by decide) (by decide) (w := .inl (M34 23 0 5)) rfl ?_
        refine v_aload_n C dX2_fillPlan_60 rfl ?_
        refine v_get C dX2_fillPlan_61 flX2_51 rfl (by decide) (by decide) (w := .inl (M34 23 0 6)) rfl ?_
        refine v_aload_n C dX2_fillPlan_64 rfl ?_
        refine v_get C dX2_fillPlan_65 flX2_54 rfl (by decide) (by decide) (w := .inl (M34 23 0 7)) rfl ?_
        refine v_invV C ctX4_put dX2_fillPlan_68 ivX2_57 ⟨by decide, by decide, rfl, rfl⟩ ((2, M34 23 0 5, M34 23 0 6, M34 23 0 7) : Int × Int × Int × Int) (As := [.inl (M34 23 0 5), .inl (M34 23 0 6), .inl (M34 23 0 7)]) rfl rfl rfl (by decide) rfl (st := []) rfl (Nat.le_of_ble_eq_true rfl) h (fun o M68 oM68 io68 h => ?_)
        obtain ⟨rfl, h⟩ := rV_out h
        refine v_push0 ?_
        refine v_goto C dX2_fillPlan_71 (tgt := 95) (by decide) ?_
        refine v_iinc C dX2_fillPlan_95 (by decide) rfl h.1 (lv' := [some (.inr (23, 0)), some (.inl (x1 + 1))]) rfl ?_
        replace h := h.2
        refine v_goto C dX2_fillPlan_98 (tgt := 27) (by decide) ?_
        refine v_weak [some (.inr (23, 0)), some (.inl (x1 + 1))] ⟨rfl, rfl, trivial⟩ ?_
        exact h
    · replace h := h.2 c41
      exact v_vret C dX2_fillPlan_44 h
/-- nothing but the finder and its plan has changed -/
def AgG (M M' : Mem) : Prop := ∀ r i j, ¬ ((r = 23 ∧ i = 0) ∨ ((r = 19 ∨ r = 20) ∧ i = 2)) → M' r i j = M r i j
theorem AgG.rf {M : Mem} : AgG M M := fun _ _ _ _ => rfl
theorem AgG.tr {M M' M2 : Mem} (h : AgG M M') (h2 : AgG M' M2) : AgG M M2 := fun r i j hn => (h2 r i j hn).trans (h r i j hn)
theorem AgG.reg {M M' : Mem} (h : AgG M M') {r : Nat} (h1 : r ≠ 23) (h2 : r ≠ 19) (h3 : r ≠ 20) : M' r = M r := by
  funext i j
  exact h r i j (fun q => by rcases q with q | q <;> omega)
theorem AgG.film {M M' : Mem} (h : AgG M M') (f : Int) : cFilm M' f = cFilm M f := cFilm_eq (fun r h1 h2 => h.reg (by omega) (by omega) (by omega)) f
theorem AgF.toG {M M' : Mem} (h : AgF M M') : AgG M M' := fun r i j hn => h r i j (fun q => hn (Or.inl ⟨q.1, q.2.1⟩))
theorem AgG.up (M : Mem) (j v : Int) : AgG M (up3 M 23 0 j v) := fun r i j' hn => if_neg (fun q => hn (Or.inl ⟨q.1, q.2.1⟩))
theorem AgG.put (M : Mem) (p a b : Int) : AgG M (up3 (up3 M 19 2 p a) 20 2 p b) := by
  intro r i j hn
  rw [AgP.up M 2 p a b r i (fun q => hn (Or.inr q))]
abbrev spX2_fillPlan (M : Mem) (K : Kont) : Prop := (WFf (cFilm M 1) ∧ TrB M 0) ∧ (M 23 0 3 ≠ 0 → K none M) ∧
  (M 23 0 3 = 0 → ∀ M', AgG M M' → M' 23 0 3 = 1 → PlK (cFilm M 1) (M' 19 2) (M' 20 2) → PlEq (M' 19 2) (M' 20 2) (gre (cFilm M 1) (M 16 0) (M 17 0)).1 (gre (cFilm M 1) (M 16 0) (M 17 0)).2 → K none M')
theorem ctX2_fillPlan : CtX2_fillPlan spX2_fillPlan := by
  refine ct_of (by decide) dmC (fun _ => Nat.le_of_ble_eq_true rfl) ?_
  intro κ a M K C oM h
  dsimp only [spX2_fillPlan] at h
  obtain ⟨⟨hf, hb⟩, hk1, hk⟩ := h
  have hnP := hf.2.2.2.1
  simp only [cFilm] at hnP
  generalize hF : cFilm M 1 = F at *
  have e37 : F 3 0 0 = M 5 1 7 := by rw [← hF]; rfl
  have loop : ∀ (n : Nat) (x : Int) (N : Mem), x + n = 22 → 0 ≤ x → AgG M N → N 23 0 3 = 1 → (0 ≤ N 23 0 4 ∧ N 23 0 4 < 2147483648) → PlK F (N 19 2) (N 20 2) →
      (∀ M', AgG M M' → M' 23 0 3 = 1 → PlK F (M' 19 2) (M' 20 2) → PlEq (M' 19 2) (M' 20 2) (grG F (M 16 0) (M 17 0) n (N 19 2) (N 20 2) (pzC (N 23 0 4))).1 (grG F (M 16 0) (M 17 0) n (N 19 2) (N 20 2) (pzC (N 23 0 4))).2 → K none M') →
      V κ 2 N 27 [some (.inr (23, 0)), some (.inl x)] [] K := by
    intro n
    induction n with
    | zero =>
      intro x N hn h0 hA h3 h4 hP hk
      refine sgX2_fillPlan_27 C x ⟨fun c => ?_, fun c => absurd (by omega) c⟩
      exact hk N hA h3 hP PlEq.rf
    | succ n ih =>
      intro x N hn h0 hA h3 h4 hP hk
      have e1 := hA.film 1
      rw [hF] at e1
      have r16 := hA.reg (r := 16) (by decide) (by decide) (by decide)
      have r17 := hA.reg (r := 17) (by decide) (by decide) (by decide)
      have r5 := hA.reg (r := 5) (by decide) (by decide) (by decide)
      refine sgX2_fillPlan_27 C x ⟨fun c => absurd c (by omega), fun c => ⟨⟨by rw [e1]; exact hf, fun u a b => by rw [r16, r17]; exact hb u a b, by rw [e1]; exact hP, h4⟩, ?_⟩⟩
      intro N2 hA2 hg
      rw [e1, r16, r17, r5, ← e37] at hg
      have ok := grP_ok hf (S := M 16 0) (Q := M 17 0) (ver := N 19 2) (sta := N 20 2) (pz := pzC (N 23 0 4)) (F 3 0 0).toNat (by omega)
      have s3 : N2 23 0 3 = 1 := by rw [hA2 23 0 3 (by omega)]; exact h3
      have s4 : N2 23 0 4 = N 23 0 4 := hA2 23 0 4 (by omega)
      have s19 := hA2.reg (r := 19) (by decide)
      have s20 := hA2.reg (r := 20) (by decide)
      have hA' : AgG M N2 := hA.tr hA2.toG
      have hk' := hk
      unfold grG at hk'
      generalize grP F (M 16 0) (M 17 0) (N 19 2) (N 20 2) (pzC (N 23 0 4)) (F 3 0 0).toNat = w at *
      refine ⟨fun c2 => ?_, fun c2 => ?_⟩
      · have hw := hg.2 c2
        have hw0 : w.1 ≠ 0 := by rw [← hg.1]; exact c2
        rw [if_neg hw0] at hk'
        have i5 : N2 23 0 5 = w.2.2.1 := by rw [← hw]; rfl
        have i6 : N2 23 0 6 = w.2.2.2.1 := by rw [← hw]; rfl
        have i7 : N2 23 0 7 = w.2.2.2.2 := by rw [← hw]; rfl
        have i9 : N2 23 0 9 = w.2.1 := by rw [← hw]; rfl
        rcases ok with ok | ⟨o1, o2, o3, o4, o5, o6, o7, o8⟩
        · exact absurd (by rw [ok]) hw0
        · have wpv := wf_pv hf o1.1 o1.2 o3.1 o3.2
          have wown := own_end (why_own o6)
          refine ⟨fun c3 => ?_, fun c3 => ?_⟩
          · rw [i9] at c3
            rw [if_pos c3] at hk'
            rw [i5, i6]
            refine ⟨⟨by omega, by omega, by omega, by omega⟩, ?_⟩
            intro N3 e3
            rw [s4] at e3
            have hpz : N3 23 0 4 = bOr (N 23 0 4) (bShl 1 (w.2.2.1 * 3 + w.2.2.2.1)) := by rw [e3, up3_s]
            have hsr := bShl_rng (k := w.2.2.1 * 3 + w.2.2.2.1) (by omega) (by omega)
            have hr := bOr_rng h4.1 h4.2 (y := bShl 1 (w.2.2.1 * 3 + w.2.2.2.1)) (by omega) (by omega)
            have n19 : N3 19 = N 19 := by funext i j; rw [e3, up3_r _ _ _ _ _ (by decide), s19]
            have n20 : N3 20 = N 20 := by funext i j; rw [e3, up3_r _ _ _ _ _ (by decide), s20]
            refine ⟨by omega, ih (x + 1) N3 (by omega) (by omega) (by rw [e3]; exact hA'.tr (AgG.up _ _ _)) ?_ (by rw [hpz]; exact hr) (by rw [n19, n20]; exact hP) ?_⟩
            · rw [e3, up3_j _ _ _ _ _ (by decide)]
              exact s3
            · intro M' a1 a2 a3 a4
              refine hk' M' a1 a2 a3 (a4.tr ?_)
              rw [n19, n20, hpz]
              refine grG_eq hf _ _ _ _ _ _ _ _ _ PlEq.rf (fun k k0 k1 => ?_)
              unfold pzC setB
              exact bit_or h4.1 h4.2 (by omega) (by omega) k0
          · rw [i9] at c3
            rw [if_neg c3] at hk'
            rw [i5, i6, i7]
            refine ⟨⟨by omega, by omega⟩, ?_⟩
            have n19 : up3 (up3 N2 19 2 w.2.2.1 w.2.2.2.1) 20 2 w.2.2.1 w.2.2.2.2 19 2 = setP (N 19 2) w.2.2.1 w.2.2.2.1 := by rw [put_19, s19]; rfl
            have n20 : up3 (up3 N2 19 2 w.2.2.1 w.2.2.2.1) 20 2 w.2.2.1 w.2.2.2.2 20 2 = setP (N 20 2) w.2.2.1 w.2.2.2.2 := by rw [put_20, s20]; rfl
            have n23 : ∀ j, up3 (up3 N2 19 2 w.2.2.1 w.2.2.2.1) 20 2 w.2.2.1 w.2.2.2.2 23 0 j = N2 23 0 j := fun j => by rw [up3_r _ _ _ _ _ (by decide), up3_r _ _ _ _ _ (by decide)]
            refine ⟨by omega, ih (x + 1) _ (by omega) (by omega) (hA'.tr (AgG.put _ _ _ _)) ?_ ?_ ?_ ?_⟩
            · rw [n23]
              exact s3
            · rw [n23, s4]
              exact h4
            · rw [n19, n20]
              exact PlK_put hP (by omega) o3 o5.1 wown.1
            · rw [n19, n20, n23, s4]
              exact hk'
      · have hw0 : w.1 = 0 := by rw [← hg.1]; omega
        rw [if_pos hw0] at hk'
        refine hk' N2 hA' s3 (by rw [s19, s20]; exact hP) ?_
        rw [s19, s20]
        exact PlEq.rf
  refine sgX2_fillPlan_0 C ⟨fun c => ?_, fun c => hk1 c⟩
  intro M10 e10 M22 e22
  have f19 : ∀ q, M22 19 2 q = if 0 ≤ q ∧ q < 7 then -4 else M 19 2 q := by
    intro q
    rw [e22, up3_r _ _ _ _ _ (by decide)]
    unfold filM
    rw [if_neg (by omega)]
    by_cases z : 0 ≤ q ∧ q < 7
    · rw [if_pos ⟨rfl, rfl, z⟩, if_pos z]
    · rw [if_neg (fun y => z y.2.2), if_neg z, e10, up3_r _ _ _ _ _ (by decide)]
  have f20 : ∀ q, M22 20 2 q = if 0 ≤ q ∧ q < 7 then -4 else M 20 2 q := by
    intro q
    rw [e22, up3_r _ _ _ _ _ (by decide)]
    unfold filM
    by_cases z : 0 ≤ q ∧ q < 7
    · rw [if_pos ⟨rfl, rfl, z⟩, if_pos z]
    · rw [if_neg (fun y => z y.2.2), if_neg (by omega), if_neg z, e10, up3_r _ _ _ _ _ (by decide)]
  have pe : PlEq (M22 19 2) (M22 20 2) (fun _ => -4) (fun _ => -4) := by
    intro q a b
    rw [f19, f20, if_pos ⟨a, b⟩, if_pos ⟨a, b⟩]
    exact ⟨rfl, rfl⟩
  refine loop 22 0 M22 (by omega) (by omega) ?_ ?_ ?_ ?_ ?_
  · intro r i j hn
    rw [e22, show up3 _ 23 0 4 0 r i j = _ from if_neg (fun q => hn (Or.inl ⟨q.1, q.2.1⟩))]
    unfold filM
    rw [if_neg (fun q => hn (Or.inr ⟨Or.inr q.1, q.2.1⟩)), if_neg (fun q => hn (Or.inr ⟨Or.inl q.1, q.2.1⟩)), e10]
    exact if_neg (fun q => hn (Or.inl ⟨q.1, q.2.1⟩))
  · rw [e22, up3_j _ _ _ _ _ (by decide)]
    unfold filM
    rw [if_neg (by omega), if_neg (by omega), e10, up3_s]
  · rw [e22, up3_s]
    decide
  · intro q a b
    have := pe q a b
    exact Or.inl this
  · intro M' a1 a2 a3 a4
    refine hk c M' a1 a2 a3 (a4.tr ?_)
    unfold gre
    refine grG_eq hf _ _ _ _ _ _ _ _ _ pe (fun k k0 k1 => ?_)
    unfold pzC
    rw [e22, up3_s, bit_0]
end
section
/-! ===== BestFinder ===== -/
/-! ===== GapTellings$BestFinder.nextFree ===== -/
abbrev rmX0_nextFree : Room := { frames := 1, cells := 0, slots := 0, locals := 21 }
abbrev argX0_nextFree (a : Int × Int × Int × Int) : List PV := [.inr (21, 0), .inl a.1, .inl a.2.1, .inl a.2.2.1, .inl a.2.2.2]
abbrev CtX0_nextFree (sp : Int → Int → Int → Int → Mem → Kont → Prop) : Prop := Ct yX0_nextFree cX0_nextFree 5 (some .int) rmX0_nextFree domC argX0_nextFree (fun a => sp a.1 a.2.1 a.2.2.1 a.2.2.2)
theorem dX0_nextFree_0 : decode cX0_nextFree 0 = .ok (.iload_n 3, 1) := by decide +kernel
theorem dX0_nextFree_1 : decode cX0_nextFree 1 = .ok (.aload_n 0, 1) := by decide +kernel
theorem dX0_nextFree_2 : decode cX0_nextFree 2 = .ok (.getfield 15, 3) := by decide +kernel
theorem dX0_nextFree_5 : decode cX0_nextFree 5 = .ok (.getfield 38, 3) := by decide +kernel
theorem dX0_nextFree_8 : decode cX0_nextFree 8 = .ok (.iload_n 1, 1) := by decide +kernel
theorem dX0_nextFree_9 : decode cX0_nextFree 9 = .ok (.aaload, 1) := by decide +kernel
theorem dX0_nextFree_10 : decode cX0_nextFree 10 = .ok (.getfield 87, 3) := by decide +kernel
theorem dX0_nextFree_13 : decode cX0_nextFree 13 = .ok (.iload_n 2, 1) := by decide +kernel
theorem dX0_nextFree_14 : decode cX0_nextFree 14 = .ok (.iaload, 1) := by decide +kernel
theorem dX0_nextFree_15 : decode cX0_nextFree 15 = .ok (.iadd, 1) := by decide +kernel
theorem dX0_nextFree_16 : decode cX0_nextFree 16 = .ok (.iload 4, 2) := by decide +kernel
theorem dX0_nextFree_18 : decode cX0_nextFree 18 = .ok (.iadd, 1) := by decide +kernel
theorem dX0_nextFree_19 : decode cX0_nextFree 19 = .ok (.aload_n 0, 1) := by decide +kernel
theorem dX0_nextFree_20 : decode cX0_nextFree 20 = .ok (.getfield 15, 3) := by decide +kernel
theorem dX0_nextFree_23 : decode cX0_nextFree 23 = .ok (.getfield 25, 3) := by decide +kernel
theorem dX0_nextFree_26 : decode cX0_nextFree 26 = .ok (.invokestatic 90, 3) := by decide +kernel
theorem dX0_nextFree_29 : decode cX0_nextFree 29 = .ok (.ireturn, 1) := by decide +kernel
theorem flX0_15 : FL RX0 15 0 0 := ⟨_, _, _, rfl, by decide, uwX0, Or.inl (tb_mem (t_in1 (List.mem_of_getElem? (i := 212) (by decide +kernel))) (by decide +kernel))⟩
theorem flX0_38 : FL RX0 38 1 8 := ⟨_, _, _, rfl, by decide, uwX1, Or.inr ⟨"GapTellings", (nw_mem (t_in1 (List.mem_of_getElem? (i := 138) (by decide +kernel))) (by decide +kernel))⟩⟩
theorem flX0_87 : FL RX0 87 3 5 := ⟨_, _, _, rfl, by decide, uwX3, Or.inr ⟨"GapTellings", (nw_mem (t_in1 (List.mem_of_getElem? (i := 84) (by decide +kernel))) (by decide +kernel))⟩⟩
theorem flX0_25 : FL RX0 25 1 0 := ⟨_, _, _, rfl, by decide, uwX1, Or.inr ⟨"GapTellings", (nw_mem (t_in1 (List.mem_of_getElem? (i := 107) (by decide +kernel))) (by decide +kernel))⟩⟩
theorem ivX0_90 : IMin RX0 90 := ⟨(tb_mem (t_in3 (List.mem_of_getElem? (i := 189) (by decide +kernel))) (by decide +kernel)), (tb_mem (t_in2 (List.mem_of_getElem? (i := 32) (by decide +kernel))) (by decide +kernel)), (tb_mem (t_in1 (List.mem_of_getElem? (i := 11) (by decide +kernel))) (by decide +kernel)), (tb_mem (t_in2 (List.mem_of_getElem? (i := 33) (by decide +kernel))) (by decide +kernel))⟩
set_option maxHeartbeats 4000000 in
set_option maxRecDepth 20000 in
theorem sgX0_nextFree_0 {κ : Kx} {K : Kont} {M : Mem} (C : Cx κ RX0 cX0_nextFree 5 (some .int) rmX0_nextFree domC) (x1 : Int) (x2 : Int) (x3 : Int) (x4 : Int)
    (h :
    (0 ≤ x1 ∧ x1 < 7) ∧
    (0 ≤ x2 ∧ x2 < 3) ∧
    inR (x3 + (M 12 (7 * 1 + x1) x2)) ∧
    inR ((x3 + (M 12 (7 * 1 + x1) x2)) + x4) ∧
    K (some (min ((x3 + (M 12 (7 * 1 + x1) x2)) + x4) (M 5 1 0))) M) : V κ 5 M 0 [some (.inr (21, 0)), some (.inl x1), some (.inl x2), some (.inl x3), some (.inl x4)] [] K := by
  refine v_iload_n C dX0_nextFree_0 rfl ?_
  refine v_aload_n C dX0_nextFree_1 rfl ?_
  refine v_get C dX0_nextFree_2 flX0_15 rfl (by decide) (by decide) (w := .inr (5, 1)) rfl ?_
  refine v_get C dX0_nextFree_5 flX0_38 rfl (by decide) (by decide) (w := .inr (10, 1)) rfl ?_
  refine v_iload_n C dX0_nextFree_8 rfl ?_
  refine v_aald C dX0_nextFree_9 h.1.1 h.1.2 ?_
  replace h := h.2
  refine v_get C dX0_nextFree_10 flX0_87 rfl (by decide) (by decide) (w := .inr (12, 7 * 1 + x1)) rfl ?_
  refine v_iload_n C dX0_nextFree_13 rfl ?_
  refine v_iald C dX0_nextFree_14 rfl h.1.1 h.1.2 ?_
  replace h := h.2
  refine v_iadd C dX0_nextFree_15 h.1 ?_
  replace h := h.2
  refine v_iload C dX0_nextFree_16 rfl ?_
  refine v_iadd C dX0_nextFree_18 h.1 ?_
  replace h := h.2
  refine v_aload_n C dX0_nextFree_19 rfl ?_
  refine v_get C dX0_nextFree_20 flX0_15 rfl (by decide) (by decide) (w := .inr (5, 1)) rfl ?_
  refine v_get C dX0_nextFree_23 flX0_25 rfl (by decide) (by decide) (w := .inl (M 5 1 0)) rfl ?_
  refine v_min C dX0_nextFree_26 ivX0_90 (Nat.le_of_ble_eq_true rfl) ⟨by decide, by decide⟩ ?_
  exact v_iret C dX0_nextFree_29 h
abbrev spX0_nextFree (p v t b : Int) (M : Mem) (K : Kont) : Prop := (WFf (cFilm M 1) ∧ (0 ≤ p ∧ p < M 5 1 7) ∧ (0 ≤ v ∧ v < M 11 (7 * 1 + p) 4) ∧ (0 ≤ t ∧ t < M 5 1 0) ∧ (0 ≤ b ∧ b ≤ 9)) ∧ K (some (min (t + cFilm M 1 13 p v + b) (cFilm M 1 0 0 0))) M
theorem ctX0_nextFree : CtX0_nextFree spX0_nextFree := by
  refine ct_of (by decide) dmC (fun _ => Nat.le_of_ble_eq_true rfl) ?_
  intro κ a M K C oM h
  obtain ⟨p, v, t, b⟩ := a
  dsimp only [spX0_nextFree] at h
  obtain ⟨⟨hf, hp, hv, ht, hb⟩, hk⟩ := h
  have hw := wf_pv hf hp.1 hp.2 hv.1 hv.2
  simp only [cFilm] at hw
  exact sgX0_nextFree_0 C p v t b ⟨by omega, by omega, by omega, by omega, hk⟩
/-! ===== GapTellings$BestFinder.neededSet ===== -/
abbrev rmX0_neededSet : Room := { frames := 0, cells := 0, slots := 0, locals := 0 }
abbrev argX0_neededSet (a : Int) : List PV := [.inr (21, 0), .inl a]
abbrev CtX0_neededSet (sp : Int → Mem → Kont → Prop) : Prop := Ct yX0_neededSet cX0_neededSet 3 (some .int) rmX0_neededSet domC argX0_neededSet (fun a => sp a)
theorem dX0_neededSet_0 : decode cX0_neededSet 0 = .ok (.aload_n 0, 1) := by decide +kernel
theorem dX0_neededSet_1 : decode cX0_neededSet 1 = .ok (.getfield 15, 3) := by decide +kernel
theorem dX0_neededSet_4 : decode cX0_neededSet 4 = .ok (.getfield 38, 3) := by decide +kernel
theorem dX0_neededSet_7 : decode cX0_neededSet 7 = .ok (.iload_n 1, 1) := by decide +kernel
theorem dX0_neededSet_8 : decode cX0_neededSet 8 = .ok (.aaload, 1) := by decide +kernel
theorem dX0_neededSet_9 : decode cX0_neededSet 9 = .ok (.getfield 95, 3) := by decide +kernel
theorem dX0_neededSet_12 : decode cX0_neededSet 12 = .ok (.istore_n 2, 1) := by decide +kernel
theorem dX0_neededSet_13 : decode cX0_neededSet 13 = .ok (.iload_n 2, 1) := by decide +kernel
theorem dX0_neededSet_14 : decode cX0_neededSet 14 = .ok (.bipush (-4), 2) := by decide +kernel
theorem dX0_neededSet_16 : decode cX0_neededSet 16 = .ok (.if_icmp .ne 7, 3) := by decide +kernel
theorem dX0_neededSet_19 : decode cX0_neededSet 19 = .ok (.iconst 0, 1) := by decide +kernel
theorem dX0_neededSet_20 : decode cX0_neededSet 20 = .ok (.goto 6, 3) := by decide +kernel
theorem dX0_neededSet_23 : decode cX0_neededSet 23 = .ok (.iconst 1, 1) := by decide +kernel
theorem dX0_neededSet_24 : decode cX0_neededSet 24 = .ok (.iload_n 2, 1) := by decide +kernel
theorem dX0_neededSet_25 : decode cX0_neededSet 25 = .ok (.ishl, 1) := by decide +kernel
theorem dX0_neededSet_26 : decode cX0_neededSet 26 = .ok (.ireturn, 1) := by decide +kernel
theorem flX0_95 : FL RX0 95 3 3 := ⟨_, _, _, rfl, by decide, uwX3, Or.inr ⟨"GapTellings", (nw_mem (t_in1 (List.mem_of_getElem? (i := 74) (by decide +kernel))) (by decide +kernel))⟩⟩
set_option maxHeartbeats 4000000 in
set_option maxRecDepth 20000 in
theorem sgX0_neededSet_0 {κ : Kx} {K : Kont} {M : Mem} (C : Cx κ RX0 cX0_neededSet 3 (some .int) rmX0_neededSet domC) (x1 : Int)
    (h :
    (0 ≤ x1 ∧ x1 < 7) ∧
    ∀ y2_12 : Int, y2_12 = M 11 (7 * 1 + x1) 3 →
    ((y2_12 ≠ (-4) →
      K (some (bShl 1 y2_12)) M) ∧
     (¬ (y2_12 ≠ (-4)) →
      K (some 0) M))) : V κ 3 M 0 [some (.inr (21, 0)), some (.inl x1), none] [] K := by
  refine v_aload_n C dX0_neededSet_0 rfl ?_
  refine v_get C dX0_neededSet_1 flX0_15 rfl (by decide) (by decide) (w := .inr (5, 1)) rfl ?_
  refine v_get C dX0_neededSet_4 flX0_38 rfl (by decide) (by decide) (w := .inr (10, 1)) rfl ?_
  refine v_iload_n C dX0_neededSet_7 rfl ?_
  refine v_aald C dX0_neededSet_8 h.1.1 h.1.2 ?_
  replace h := h.2
  refine v_get C dX0_neededSet_9 flX0_95 rfl (by decide) (by decide) (w := .inl (M 11 (7 * 1 + x1) 3)) rfl ?_
  refine v_nm (fun y2_12 ey2_12 => ?_)
  replace h := h y2_12 ey2_12
  refine v_istore_n C dX0_neededSet_12 (by decide) (Nat.le_of_ble_eq_true rfl) (lv' := [some (.inr (21, 0)), some (.inl x1), some (.inl y2_12)]) rfl ?_
  refine v_iload_n C dX0_neededSet_13 rfl ?_
  refine v_bipush C dX0_neededSet_14 (by decide) (by decide) ?_
  refine v_icmp C dX0_neededSet_16 (tgt := 23) (by decide) (P := y2_12 ≠ (-4)) rfl (fun c16 => ?_) (fun c16 => ?_)
  · replace h := h.1 c16
    refine v_iconst C dX0_neededSet_23 (by decide) ?_
    refine v_iload_n C dX0_neededSet_24 rfl ?_
    refine v_ishl C dX0_neededSet_25 ?_
    exact v_iret C dX0_neededSet_26 h
  · replace h := h.2 c16
    refine v_iconst C dX0_neededSet_19 (by decide) ?_
    refine v_goto C dX0_neededSet_20 (tgt := 26) (by decide) ?_
    exact v_iret C dX0_neededSet_26 h
def ndS (F : Film) (p : Int) : Int := if F 12 p 0 = -4 then 0 else bShl 1 (F 12 p 0)
abbrev spX0_neededSet (p : Int) (M : Mem) (K : Kont) : Prop := (0 ≤ p ∧ p < 7) ∧ K (some (ndS (cFilm M 1) p)) M
theorem ctX0_neededSet : CtX0_neededSet spX0_neededSet := by
  refine ct_of (by decide) dmC (fun _ => Nat.le_of_ble_eq_true rfl) ?_
  intro κ p M K C oM h
  dsimp only [spX0_neededSet] at h
  obtain ⟨hp, hk⟩ := h
  refine sgX0_neededSet_0 C p ⟨hp, fun y ey => ⟨fun c => ?_, fun c => ?_⟩⟩
  · unfold ndS at hk
    rw [if_neg (by show M 11 (7 * 1 + p) 3 ≠ -4; omega)] at hk
    rw [ey]
    exact hk
  · unfold ndS at hk
    rw [if_pos (by show M 11 (7 * 1 + p) 3 = -4; omega)] at hk
    exact hk
/-! ===== GapTellings$BestFinder.openAhead ===== -/
abbrev rmX0_openAhead : Room := { frames := 0, cells := 0, slots := 0, locals := 0 }
abbrev argX0_openAhead (a : Int × Int) : List PV := [.inr (21, 0), .inl a.1, .inl a.2]
abbrev CtX0_openAhead (sp : Int → Int → Mem → Kont → Prop) : Prop := Ct yX0_openAhead cX0_openAhead 5 (some .int) rmX0_openAhead domC argX0_openAhead (fun a => sp a.1 a.2)
theorem dX0_openAhead_0 : decode cX0_openAhead 0 = .ok (.iconst 0, 1) := by decide +kernel
theorem dX0_openAhead_1 : decode cX0_openAhead 1 = .ok (.istore_n 3, 1) := by decide +kernel
theorem dX0_openAhead_2 : decode cX0_openAhead 2 = .ok (.iconst 0, 1) := by decide +kernel
theorem dX0_openAhead_3 : decode cX0_openAhead 3 = .ok (.istore 4, 2) := by decide +kernel
theorem dX0_openAhead_5 : decode cX0_openAhead 5 = .ok (.iload 4, 2) := by decide +kernel
theorem dX0_openAhead_7 : decode cX0_openAhead 7 = .ok (.aload_n 0, 1) := by decide +kernel
theorem dX0_openAhead_8 : decode cX0_openAhead 8 = .ok (.getfield 15, 3) := by decide +kernel
theorem dX0_openAhead_11 : decode cX0_openAhead 11 = .ok (.getfield 19, 3) := by decide +kernel
theorem dX0_openAhead_14 : decode cX0_openAhead 14 = .ok (.if_icmp .ge 47, 3) := by decide +kernel
theorem dX0_openAhead_17 : decode cX0_openAhead 17 = .ok (.aload_n 0, 1) := by decide +kernel
theorem dX0_openAhead_18 : decode cX0_openAhead 18 = .ok (.getfield 15, 3) := by decide +kernel
theorem dX0_openAhead_21 : decode cX0_openAhead 21 = .ok (.getfield 38, 3) := by decide +kernel
theorem dX0_openAhead_24 : decode cX0_openAhead 24 = .ok (.iload 4, 2) := by decide +kernel
theorem dX0_openAhead_26 : decode cX0_openAhead 26 = .ok (.aaload, 1) := by decide +kernel
theorem dX0_openAhead_27 : decode cX0_openAhead 27 = .ok (.getfield 56, 3) := by decide +kernel
theorem dX0_openAhead_30 : decode cX0_openAhead 30 = .ok (.aload_n 0, 1) := by decide +kernel
theorem dX0_openAhead_31 : decode cX0_openAhead 31 = .ok (.getfield 15, 3) := by decide +kernel
theorem dX0_openAhead_34 : decode cX0_openAhead 34 = .ok (.getfield 38, 3) := by decide +kernel
theorem dX0_openAhead_37 : decode cX0_openAhead 37 = .ok (.iload 4, 2) := by decide +kernel
theorem dX0_openAhead_39 : decode cX0_openAhead 39 = .ok (.aaload, 1) := by decide +kernel
theorem dX0_openAhead_40 : decode cX0_openAhead 40 = .ok (.getfield 59, 3) := by decide +kernel
theorem dX0_openAhead_43 : decode cX0_openAhead 43 = .ok (.isub, 1) := by decide +kernel
theorem dX0_openAhead_44 : decode cX0_openAhead 44 = .ok (.iload_n 2, 1) := by decide +kernel
theorem dX0_openAhead_45 : decode cX0_openAhead 45 = .ok (.if_icmp .ge 10, 3) := by decide +kernel
theorem dX0_openAhead_48 : decode cX0_openAhead 48 = .ok (.iload_n 3, 1) := by decide +kernel
theorem dX0_openAhead_49 : decode cX0_openAhead 49 = .ok (.iconst 1, 1) := by decide +kernel
theorem dX0_openAhead_50 : decode cX0_openAhead 50 = .ok (.iload 4, 2) := by decide +kernel
theorem dX0_openAhead_52 : decode cX0_openAhead 52 = .ok (.ishl, 1) := by decide +kernel
theorem dX0_openAhead_53 : decode cX0_openAhead 53 = .ok (.ior, 1) := by decide +kernel
theorem dX0_openAhead_54 : decode cX0_openAhead 54 = .ok (.istore_n 3, 1) := by decide +kernel
theorem dX0_openAhead_55 : decode cX0_openAhead 55 = .ok (.iinc 4 1, 3) := by decide +kernel
theorem dX0_openAhead_58 : decode cX0_openAhead 58 = .ok (.goto (-53), 3) := by decide +kernel
theorem dX0_openAhead_61 : decode cX0_openAhead 61 = .ok (.iload_n 3, 1) := by decide +kernel
theorem dX0_openAhead_62 : decode cX0_openAhead 62 = .ok (.iload_n 1, 1) := by decide +kernel
theorem dX0_openAhead_63 : decode cX0_openAhead 63 = .ok (.iand, 1) := by decide +kernel
theorem dX0_openAhead_64 : decode cX0_openAhead 64 = .ok (.ireturn, 1) := by decide +kernel
theorem flX0_19 : FL RX0 19 1 7 := ⟨_, _, _, rfl, by decide, uwX1, Or.inr ⟨"GapTellings", (nw_mem (t_in1 (List.mem_of_getElem? (i := 131) (by decide +kernel))) (by decide +kernel))⟩⟩
theorem flX0_56 : FL RX0 56 3 0 := ⟨_, _, _, rfl, by decide, uwX3, Or.inr ⟨"GapTellings", (nw_mem (t_in1 (List.mem_of_getElem? (i := 62) (by decide +kernel))) (by decide +kernel))⟩⟩
theorem flX0_59 : FL RX0 59 3 1 := ⟨_, _, _, rfl, by decide, uwX3, Or.inr ⟨"GapTellings", (nw_mem (t_in1 (List.mem_of_getElem? (i := 67) (by decide +kernel))) (by decide +kernel))⟩⟩
set_option maxHeartbeats 4000000 in
set_option maxRecDepth 20000 in
theorem sgX0_openAhead_0 {κ : Kx} {K : Kont} {M : Mem} (C : Cx κ RX0 cX0_openAhead 5 (some .int) rmX0_openAhead domC) (x1 : Int) (x2 : Int)
    (h :
    V κ 5 M 5 [some (.inr (21, 0)), some (.inl x1), some (.inl x2), some (.inl 0), some (.inl 0)] [] K) : V κ 5 M 0 [some (.inr (21, 0)), some (.inl x1), some (.inl x2), none, none] [] K := by
  refine v_iconst C dX0_openAhead_0 (by decide) ?_
  refine v_istore_n C dX0_openAhead_1 (by decide) (Nat.le_of_ble_eq_true rfl) (lv' := [some (.inr (21, 0)), some (.inl x1), some (.inl x2), some (.inl 0), none]) rfl ?_
  refine v_iconst C dX0_openAhead_2 (by decide) ?_
  refine v_istore C dX0_openAhead_3 (by decide) (Nat.le_of_ble_eq_true rfl) (lv' := [some (.inr (21, 0)), some (.inl x1), some (.inl x2), some (.inl 0), some (.inl 0)]) rfl ?_
  refine v_weak [some (.inr (21, 0)), some (.inl x1), some (.inl x2), some (.inl 0), some (.inl 0)] ⟨rfl, rfl, rfl, rfl, rfl, trivial⟩ ?_
  exact h
set_option maxHeartbeats 4000000 in
set_option maxRecDepth 20000 in
theorem sgX0_openAhead_5 {κ : Kx} {K : Kont} {M : Mem} (C : Cx κ RX0 cX0_openAhead 5 (some .int) rmX0_openAhead domC) (x1 : Int) (x2 : Int) (x3 : Int) (x4 : Int)
    (h :
    (((M 5 1 7) ≤ x4 →
      K (some (bAnd x3 x1)) M) ∧
     (¬ ((M 5 1 7) ≤ x4) →
      (0 ≤ x4 ∧ x4 < 7) ∧
      (0 ≤ x4 ∧ x4 < 7) ∧
      inR ((M 11 (7 * 1 + x4) 0) - (M 11 (7 * 1 + x4) 1)) ∧
      ((x2 ≤ ((M 11 (7 * 1 + x4) 0) - (M 11 (7 * 1 + x4) 1)) →
        inR (x4 + 1) ∧
        V κ 5 M 5 [some (.inr (21, 0)), some (.inl x1), some (.inl x2), some (.inl x3), some (.inl (x4 + 1))] [] K) ∧
       (¬ (x2 ≤ ((M 11 (7 * 1 + x4) 0) - (M 11 (7 * 1 + x4) 1))) →
        ∀ y3_54 : Int, y3_54 = bOr x3 (bShl 1 x4) →
        inR (x4 + 1) ∧
        V κ 5 M 5 [some (.inr (21, 0)), some (.inl x1), some (.inl x2), some (.inl y3_54), some (.inl (x4 + 1))] [] K))))) : V κ 5 M 5 [some (.inr (21, 0)), some (.inl x1), some (.inl x2), some (.inl x3), some (.inl x4)] [] K := by
  refine v_iload C dX0_openAhead_5 rfl ?_
  refine v_aload_n C dX0_openAhead_7 rfl ?_
  refine v_get C dX0_openAhead_8 flX0_15 rfl (by decide) (by decide) (w := .inr (5, 1)) rfl ?_
  refine v_get C dX0_openAhead_11 flX0_19 rfl (by decide) (by decide) (w := .inl (M 5 1 7)) rfl ?_
  refine v_icmp C dX0_openAhead_14 (tgt := 61) (by decide) (P := (M 5 1 7) ≤ x4) rfl (fun c14 => ?_) (fun c14 => ?_)
  · replace h := h.1 c14
    refine v_iload_n C dX0_openAhead_61 rfl ?_
    refine v_iload_n C dX0_openAhead_62 rfl ?_
    refine v_iand C dX0_openAhead_63 ?_
    exact v_iret C dX0_openAhead_64 h
  · replace h := h.2 c14
    refine v_aload_n C dX0_openAhead_17 rfl ?_
    refine v_get C dX0_openAhead_18 flX0_15 rfl (by decide) (by decide) (w := .inr (5, 1)) rfl ?_
    refine v_get C dX0_openAhead_21 flX0_38 rfl (by decide) (by decide) (w := .inr (10, 1)) rfl ?_
    refine v_iload C dX0_openAhead_24 rfl ?_
    refine v_aald C dX0_openAhead_26 h.1.1 h.1.2 ?_
    replace h := h.2
    refine v_get C dX0_openAhead_27 flX0_56 rfl (by decide) (by decide) (w := .inl (M 11 (7 * 1 + x4) 0)) rfl ?_
    refine v_aload_n C dX0_openAhead_30 rfl ?_
    refine v_get C dX0_openAhead_31 flX0_15 rfl (by decide) (by decide) (w := .inr (5, 1)) rfl ?_
    refine v_get C dX0_openAhead_34 flX0_38 rfl (by decide) (by decide) (w := .inr (10, 1)) rfl ?_
    refine v_iload C dX0_openAhead_37 rfl ?_
    refine v_aald C dX0_openAhead_39 h.1.1 h.1.2 ?_
    replace h := h.2
    refine v_get C dX0_openAhead_40 flX0_59 rfl (by decide) (by decide) (w := .inl (M 11 (7 * 1 + x4) 1)) rfl ?_
    refine v_isub C dX0_openAhead_43 h.1 ?_
    replace h := h.2
    refine v_iload_n C dX0_openAhead_44 rfl ?_
    refine v_icmp C dX0_openAhead_45 (tgt := 55) (by decide) (P := x2 ≤ ((M 11 (7 * 1 + x4) 0) - (M 11 (7 * 1 + x4) 1))) rfl (fun c45 => ?_) (fun c45 => ?_)
    · replace h := h.1 c45
      refine v_iinc C dX0_openAhead_55 (by decide) rfl h.1 (lv' := [some (.inr (21, 0)), some (.inl x1), some (.inl x2), some (.inl x3), some (.inl (x4 + 1))]) rfl ?_
      replace h := h.2
      refine v_goto C dX0_openAhead_58 (tgt := 5) (by decide) ?_
      refine v_weak [some (.inr (21, 0)), some (.inl x1), some (.inl x2), some (.inl x3), some (.inl (x4 + 1))] ⟨rfl, rfl, rfl, rfl, rfl, trivial⟩ ?_
      exact h
    · replace h := h.2 c45
      refine v_iload_n C dX0_openAhead_48 rfl ?_
      refine v_iconst C dX0_openAhead_49 (by decide) ?_
      refine v_iload C dX0_openAhead_50 rfl ?_
      refine v_ishl C dX0_openAhead_52 ?_
      refine v_ior C dX0_openAhead_53 ?_
      refine v_nm (fun y3_54 ey3_54 => ?_)
      replace h := h y3_54 ey3_54
      refine v_istore_n C dX0_openAhead_54 (by decide) (Nat.le_of_ble_eq_true rfl) (lv' := [some (.inr (21, 0)), some (.inl x1), some (.inl x2), some (.inl y3_54), some (.inl x4)]) rfl ?_
      refine v_iinc C dX0_openAhead_55 (by decide) rfl h.1 (lv' := [some (.inr (21, 0)), some (.inl x1), some (.inl x2), some (.inl y3_54), some (.inl (x4 + 1))]) rfl ?_
      replace h := h.2
      refine v_goto C dX0_openAhead_58 (tgt := 5) (by decide) ?_
      refine v_weak [some (.inr (21, 0)), some (.inl x1), some (.inl x2), some (.inl y3_54), some (.inl (x4 + 1))] ⟨rfl, rfl, rfl, rfl, rfl, trivial⟩ ?_
      exact h
/-- a set of those that can begin ahead of a tick -/
def AhM (F : Film) (set t A : Int) : Prop := (0 ≤ A ∧ A ≤ set) ∧ ∀ k, 0 ≤ k → k < 7 → (bit A k = true ↔ (bit set k = true ∧ k < F 3 0 0 ∧ F 8 k 0 - F 9 k 0 < t))
abbrev spX0_openAhead (set t : Int) (M : Mem) (K : Kont) : Prop := (WFf (cFilm M 1) ∧ (0 ≤ set ∧ set < 128)) ∧ ∀ A, AhM (cFilm M 1) set t A → K (some A) M
theorem ctX0_openAhead : CtX0_openAhead spX0_openAhead := by
  refine ct_of (by decide) dmC (fun _ => Nat.le_of_ble_eq_true rfl) ?_
  intro κ a M K C oM h
  obtain ⟨set, t⟩ := a
  dsimp only [spX0_openAhead] at h
  obtain ⟨⟨hf, hs⟩, hk⟩ := h
  have hnP := hf.2.2.2.1
  simp only [cFilm] at hnP
  have loop : ∀ (n : Nat) (p x : Int), 0 ≤ p → p + n = M 5 1 7 → (0 ≤ x ∧ x < 2147483648) → (∀ k, 0 ≤ k → (bit x k = true ↔ (k < p ∧ M 11 (7 * 1 + k) 0 - M 11 (7 * 1 + k) 1 < t))) →
      V κ 5 M 5 [some (.inr (21, 0)), some (.inl set), some (.inl t), some (.inl x), some (.inl p)] [] K := by
    intro n
    induction n with
    | zero =>
      intro p x h0 hn hx hbit
      refine sgX0_openAhead_5 C set t x p ⟨fun c => ?_, fun c => absurd (by omega) c⟩
      refine hk _ ⟨bAnd_le hx.1 hx.2 hs.1 (by omega), fun k k0 k1 => ?_⟩
      rw [bit_and hx.1 hx.2 hs.1 (by omega), Bool.and_eq_true, hbit k k0]
      show _ ↔ (_ ∧ k < M 5 1 7 ∧ M 11 (7 * 1 + k) 0 - M 11 (7 * 1 + k) 1 < t)
      constructor
      · rintro ⟨⟨a, b⟩, c⟩
        exact ⟨c, by omega, b⟩
      · rintro ⟨a, b, c⟩
        exact ⟨⟨by omega, c⟩, a⟩
    | succ n ih =>
      intro p x h0 hn hx hbit
      have hw := wf_p hf h0 (show p < M 5 1 7 by omega)
      simp only [cFilm] at hw
      refine sgX0_openAhead_5 C set t x p ⟨fun c => absurd c (by omega), fun c => ⟨by omega, by omega, by omega, fun c2 => ⟨by omega, ?_⟩, fun c2 y ey => ⟨by omega, ?_⟩⟩⟩
      · refine ih (p + 1) x (by omega) (by omega) hx (fun k k0 => ?_)
        rw [hbit k k0]
        by_cases e : k = p
        · subst e
          constructor
          · rintro ⟨a, b⟩; omega
          · rintro ⟨a, b⟩; omega
        · constructor
          · rintro ⟨a, b⟩; exact ⟨by omega, b⟩
          · rintro ⟨a, b⟩; exact ⟨by omega, b⟩
      · have hsr := bShl_rng (k := p) h0 (by omega)
        refine ih (p + 1) y (by omega) (by omega) (by rw [ey]; exact bOr_rng hx.1 hx.2 (by omega) (by omega)) (fun k k0 => ?_)
        rw [ey, bit_or hx.1 hx.2 h0 (by omega) k0, Bool.or_eq_true, hbit k k0, decide_eq_true_eq]
        by_cases e : k = p
        · subst e
          constructor
          · intro _; exact ⟨by omega, by omega⟩
          · intro _; exact Or.inr rfl
        · constructor
          · rintro (⟨a, b⟩ | a)
            · exact ⟨by omega, b⟩
            · exact absurd a e
          · rintro ⟨a, b⟩
            exact Or.inl ⟨by omega, b⟩
  refine sgX0_openAhead_0 C set t ?_
  refine loop (M 5 1 7).toNat 0 0 (by omega) (by omega) (by omega) (fun k k0 => ?_)
  rw [bit_0]
  constructor
  · intro z; cases z
  · rintro ⟨a, b⟩; omega
/-- nothing but the table has changed -/
def AgB (M M' : Mem) : Prop := ∀ r, r ≠ 22 → M' r = M r
theorem AgB.rf {M : Mem} : AgB M M := fun _ _ => rfl
theorem AgB.tr {M M' M2 : Mem} (h : AgB M M') (h2 : AgB M' M2) : AgB M M2 := fun r hr => (h2 r hr).trans (h r hr)
theorem AgB.up (M : Mem) (j v : Int) : AgB M (up3 M 22 0 j v) := by
  intro r hr
  funext i j'
  exact up3_r _ _ _ _ _ hr i j'
theorem AgB.film {M M' : Mem} (h : AgB M M') (f : Int) : cFilm M' f = cFilm M f := cFilm_eq (fun r h1 h2 => h r (by omega)) f
/-! ===== GapTellings$BestFinder.raiseRow ===== -/
abbrev rmX0_raiseRow : Room := { frames := 1, cells := 0, slots := 0, locals := 22 }
abbrev argX0_raiseRow (a : Int × Int × Int × Int × Int) : List PV := [.inr (21, 0), .inl a.1, .inl a.2.1, .inl a.2.2.1, .inl a.2.2.2.1, .inl a.2.2.2.2]
abbrev CtX0_raiseRow (sp : Int → Int → Int → Int → Int → Mem → Kont → Prop) : Prop := Ct yX0_raiseRow cX0_raiseRow 13 none rmX0_raiseRow domC argX0_raiseRow (fun a => sp a.1 a.2.1 a.2.2.1 a.2.2.2.1 a.2.2.2.2)
theorem dX0_raiseRow_0 : decode cX0_raiseRow 0 = .ok (.iconst 1, 1) := by decide +kernel
theorem dX0_raiseRow_1 : decode cX0_raiseRow 1 = .ok (.aload_n 0, 1) := by decide +kernel
theorem dX0_raiseRow_2 : decode cX0_raiseRow 2 = .ok (.getfield 15, 3) := by decide +kernel
theorem dX0_raiseRow_5 : decode cX0_raiseRow 5 = .ok (.getfield 19, 3) := by decide +kernel
theorem dX0_raiseRow_8 : decode cX0_raiseRow 8 = .ok (.ishl, 1) := by decide +kernel
theorem dX0_raiseRow_9 : decode cX0_raiseRow 9 = .ok (.istore 6, 2) := by decide +kernel
theorem dX0_raiseRow_11 : decode cX0_raiseRow 11 = .ok (.aload_n 0, 1) := by decide +kernel
theorem dX0_raiseRow_12 : decode cX0_raiseRow 12 = .ok (.iload_n 1, 1) := by decide +kernel
theorem dX0_raiseRow_13 : decode cX0_raiseRow 13 = .ok (.invokevirtual 48, 3) := by decide +kernel
theorem dX0_raiseRow_16 : decode cX0_raiseRow 16 = .ok (.istore 7, 2) := by decide +kernel
theorem dX0_raiseRow_18 : decode cX0_raiseRow 18 = .ok (.iload_n 2, 1) := by decide +kernel
theorem dX0_raiseRow_19 : decode cX0_raiseRow 19 = .ok (.iload 6, 2) := by decide +kernel
theorem dX0_raiseRow_21 : decode cX0_raiseRow 21 = .ok (.imul, 1) := by decide +kernel
theorem dX0_raiseRow_22 : decode cX0_raiseRow 22 = .ok (.iload 7, 2) := by decide +kernel
theorem dX0_raiseRow_24 : decode cX0_raiseRow 24 = .ok (.iadd, 1) := by decide +kernel
theorem dX0_raiseRow_25 : decode cX0_raiseRow 25 = .ok (.istore 8, 2) := by decide +kernel
theorem dX0_raiseRow_27 : decode cX0_raiseRow 27 = .ok (.iload_n 3, 1) := by decide +kernel
theorem dX0_raiseRow_28 : decode cX0_raiseRow 28 = .ok (.iload 6, 2) := by decide +kernel
theorem dX0_raiseRow_30 : decode cX0_raiseRow 30 = .ok (.imul, 1) := by decide +kernel
theorem dX0_raiseRow_31 : decode cX0_raiseRow 31 = .ok (.iload 7, 2) := by decide +kernel
theorem dX0_raiseRow_33 : decode cX0_raiseRow 33 = .ok (.iadd, 1) := by decide +kernel
theorem dX0_raiseRow_34 : decode cX0_raiseRow 34 = .ok (.iconst 1, 1) := by decide +kernel
theorem dX0_raiseRow_35 : decode cX0_raiseRow 35 = .ok (.iload_n 1, 1) := by decide +kernel
theorem dX0_raiseRow_36 : decode cX0_raiseRow 36 = .ok (.ishl, 1) := by decide +kernel
theorem dX0_raiseRow_37 : decode cX0_raiseRow 37 = .ok (.iadd, 1) := by decide +kernel
theorem dX0_raiseRow_38 : decode cX0_raiseRow 38 = .ok (.istore 9, 2) := by decide +kernel
theorem dX0_raiseRow_40 : decode cX0_raiseRow 40 = .ok (.iconst 0, 1) := by decide +kernel
theorem dX0_raiseRow_41 : decode cX0_raiseRow 41 = .ok (.istore 10, 2) := by decide +kernel
theorem dX0_raiseRow_43 : decode cX0_raiseRow 43 = .ok (.iconst 1, 1) := by decide +kernel
theorem dX0_raiseRow_44 : decode cX0_raiseRow 44 = .ok (.iload 5, 2) := by decide +kernel
theorem dX0_raiseRow_46 : decode cX0_raiseRow 46 = .ok (.invokestatic 82, 3) := by decide +kernel
theorem dX0_raiseRow_49 : decode cX0_raiseRow 49 = .ok (.ishl, 1) := by decide +kernel
theorem dX0_raiseRow_50 : decode cX0_raiseRow 50 = .ok (.istore 11, 2) := by decide +kernel
theorem dX0_raiseRow_52 : decode cX0_raiseRow 52 = .ok (.iload 11, 2) := by decide +kernel
theorem dX0_raiseRow_54 : decode cX0_raiseRow 54 = .ok (.ifCond .le 61, 3) := by decide +kernel
theorem dX0_raiseRow_57 : decode cX0_raiseRow 57 = .ok (.iload 4, 2) := by decide +kernel
theorem dX0_raiseRow_59 : decode cX0_raiseRow 59 = .ok (.aload_n 0, 1) := by decide +kernel
theorem dX0_raiseRow_60 : decode cX0_raiseRow 60 = .ok (.getfield 9, 3) := by decide +kernel
theorem dX0_raiseRow_63 : decode cX0_raiseRow 63 = .ok (.iload 9, 2) := by decide +kernel
theorem dX0_raiseRow_65 : decode cX0_raiseRow 65 = .ok (.iload 10, 2) := by decide +kernel
theorem dX0_raiseRow_67 : decode cX0_raiseRow 67 = .ok (.iadd, 1) := by decide +kernel
theorem dX0_raiseRow_68 : decode cX0_raiseRow 68 = .ok (.iaload, 1) := by decide +kernel
theorem dX0_raiseRow_69 : decode cX0_raiseRow 69 = .ok (.iadd, 1) := by decide +kernel
theorem dX0_raiseRow_70 : decode cX0_raiseRow 70 = .ok (.istore 12, 2) := by decide +kernel
theorem dX0_raiseRow_72 : decode cX0_raiseRow 72 = .ok (.iload 12, 2) := by decide +kernel
theorem dX0_raiseRow_74 : decode cX0_raiseRow 74 = .ok (.aload_n 0, 1) := by decide +kernel
theorem dX0_raiseRow_75 : decode cX0_raiseRow 75 = .ok (.getfield 9, 3) := by decide +kernel
theorem dX0_raiseRow_78 : decode cX0_raiseRow 78 = .ok (.iload 8, 2) := by decide +kernel
theorem dX0_raiseRow_80 : decode cX0_raiseRow 80 = .ok (.iload 10, 2) := by decide +kernel
theorem dX0_raiseRow_82 : decode cX0_raiseRow 82 = .ok (.iadd, 1) := by decide +kernel
theorem dX0_raiseRow_83 : decode cX0_raiseRow 83 = .ok (.iaload, 1) := by decide +kernel
theorem dX0_raiseRow_84 : decode cX0_raiseRow 84 = .ok (.if_icmp .le 15, 3) := by decide +kernel
theorem dX0_raiseRow_87 : decode cX0_raiseRow 87 = .ok (.aload_n 0, 1) := by decide +kernel
theorem dX0_raiseRow_88 : decode cX0_raiseRow 88 = .ok (.getfield 9, 3) := by decide +kernel
theorem dX0_raiseRow_91 : decode cX0_raiseRow 91 = .ok (.iload 8, 2) := by decide +kernel
theorem dX0_raiseRow_93 : decode cX0_raiseRow 93 = .ok (.iload 10, 2) := by decide +kernel
theorem dX0_raiseRow_95 : decode cX0_raiseRow 95 = .ok (.iadd, 1) := by decide +kernel
theorem dX0_raiseRow_96 : decode cX0_raiseRow 96 = .ok (.iload 12, 2) := by decide +kernel
theorem dX0_raiseRow_98 : decode cX0_raiseRow 98 = .ok (.iastore, 1) := by decide +kernel
theorem dX0_raiseRow_99 : decode cX0_raiseRow 99 = .ok (.iload 10, 2) := by decide +kernel
theorem dX0_raiseRow_101 : decode cX0_raiseRow 101 = .ok (.iload 5, 2) := by decide +kernel
theorem dX0_raiseRow_103 : decode cX0_raiseRow 103 = .ok (.isub, 1) := by decide +kernel
theorem dX0_raiseRow_104 : decode cX0_raiseRow 104 = .ok (.iload 5, 2) := by decide +kernel
theorem dX0_raiseRow_106 : decode cX0_raiseRow 106 = .ok (.iand, 1) := by decide +kernel
theorem dX0_raiseRow_107 : decode cX0_raiseRow 107 = .ok (.istore 10, 2) := by decide +kernel
theorem dX0_raiseRow_109 : decode cX0_raiseRow 109 = .ok (.iinc 11 (-1), 3) := by decide +kernel
theorem dX0_raiseRow_112 : decode cX0_raiseRow 112 = .ok (.goto (-60), 3) := by decide +kernel
theorem dX0_raiseRow_115 : decode cX0_raiseRow 115 = .ok (.return_, 1) := by decide +kernel
theorem ivX0_48 : IV RX0 48 yX0_neededSet cX0_neededSet 3 (some .int) 1 := ⟨(tb_mem (t_in3 (List.mem_of_getElem? (i := 176) (by decide +kernel))) (by decide +kernel)), (tb_mem (t_in3 (List.mem_of_getElem? (i := 177) (by decide +kernel))) (by decide +kernel)), (tb_mem (t_in3 (List.mem_of_getElem? (i := 178) (by decide +kernel))) (by decide +kernel)), (tb_mem (t_in1 (List.mem_of_getElem? (i := 8) (by decide +kernel))) (by decide +kernel)), (tb_mem (t_in3 (List.mem_of_getElem? (i := 179) (by decide +kernel))) (by decide +kernel)), ⟨by decide +kernel, by decide +kernel, by decide +kernel⟩⟩
theorem ivX0_82 : IS RX0 82 yJ6_bitCount_0f7a4 cJ6_bitCount_0f7a4 1 (some .int) 1 := ⟨(tb_mem (t_in3 (List.mem_of_getElem? (i := 195) (by decide +kernel))) (by decide +kernel)), (tb_mem (t_in3 (List.mem_of_getElem? (i := 196) (by decide +kernel))) (by decide +kernel)), (tb_mem (t_in1 (List.mem_of_getElem? (i := 18) (by decide +kernel))) (by decide +kernel)), (tb_mem (t_in3 (List.mem_of_getElem? (i := 197) (by decide +kernel))) (by decide +kernel)), ⟨by decide +kernel, by decide +kernel, by decide +kernel⟩⟩
theorem flX0_9 : FL RX0 9 0 1 := ⟨_, _, _, rfl, by decide, uwX0, Or.inl (tb_mem (t_in1 (List.mem_of_getElem? (i := 213) (by decide +kernel))) (by decide +kernel))⟩
set_option maxHeartbeats 4000000 in
set_option maxRecDepth 20000 in
theorem sgX0_raiseRow_0 {κ : Kx} {K : Kont} {M : Mem} (C : Cx κ RX0 cX0_raiseRow 13 none rmX0_raiseRow domC) (x1 : Int) (x2 : Int) (x3 : Int) (x4 : Int) (x5 : Int)
    (h :
    ∀ y6_9 : Int, y6_9 = bShl 1 (M 5 1 7) →
    spX0_neededSet x1 M (rI (fun r13 M13 =>
    inR (x2 * y6_9) ∧
    inR ((x2 * y6_9) + r13) ∧
    ∀ y8_25 : Int, y8_25 = (x2 * y6_9) + r13 →
    inR (x3 * y6_9) ∧
    inR ((x3 * y6_9) + r13) ∧
    inR (((x3 * y6_9) + r13) + (bShl 1 x1)) ∧
    ∀ y9_38 : Int, y9_38 = ((x3 * y6_9) + r13) + (bShl 1 x1) →
    spJ6_bitCount_0f7a4 x5 M13 (rI (fun r46 M46 =>
    ∀ y11_50 : Int, y11_50 = bShl 1 r46 →
    V κ 13 M46 52 [some (.inr (21, 0)), none, none, none, some (.inl x4), some (.inl x5), none, none, some (.inl y8_25), some (.inl y9_38), some (.inl 0), some (.inl y11_50), none] [] K))))) : V κ 13 M 0 [some (.inr (21, 0)), some (.inl x1), some (.inl x2), some (.inl x3), some (.inl x4), some (.inl x5), none, none, none, none, none, none, none] [] K := by
  refine v_iconst C dX0_raiseRow_0 (by decide) ?_
  refine v_aload_n C dX0_raiseRow_1 rfl ?_
  refine v_get C dX0_raiseRow_2 flX0_15 rfl (by decide) (by decide) (w := .inr (5, 1)) rfl ?_
  refine v_get C dX0_raiseRow_5 flX0_19 rfl (by decide) (by decide) (w := .inl (M 5 1 7)) rfl ?_
  refine v_ishl C dX0_raiseRow_8 ?_
  refine v_nm (fun y6_9 ey6_9 => ?_)
  replace h := h y6_9 ey6_9
  refine v_istore C dX0_raiseRow_9 (by decide) (Nat.le_of_ble_eq_true rfl) (lv' := [some (.inr (21, 0)), some (.inl x1), some (.inl x2), some (.inl x3), some (.inl x4), some (.inl x5), some (.inl y6_9), none, none, none, none, none, none]) rfl ?_
  refine v_aload_n C dX0_raiseRow_11 rfl ?_
  refine v_iload_n C dX0_raiseRow_12 rfl ?_
  refine v_invV C ctX0_neededSet dX0_raiseRow_13 ivX0_48 ⟨by decide, by decide, rfl, rfl⟩ (x1 : Int) (As := [.inl x1]) rfl rfl rfl (by decide) rfl (st := []) rfl (Nat.le_of_ble_eq_true rfl) h (fun o M13 oM13 io13 h => ?_)
  obtain ⟨r13, rfl, h⟩ := rI_out h
  refine v_push ?_
  refine v_istore C dX0_raiseRow_16 (by decide) (Nat.le_of_ble_eq_true rfl) (lv' := [some (.inr (21, 0)), some (.inl x1), some (.inl x2), some (.inl x3), some (.inl x4), some (.inl x5), some (.inl y6_9), some (.inl r13), none, none, none, none, none]) rfl ?_
  refine v_iload_n C dX0_raiseRow_18 rfl ?_
  refine v_iload C dX0_raiseRow_19 rfl ?_
  refine v_imul C dX0_raiseRow_21 h.1 ?_
  replace h := h.2
  refine v_iload C dX0_raiseRow_22 rfl ?_
  refine v_iadd C dX0_raiseRow_24 h.1 ?_
  replace h := h.2
  refine v_nm (fun y8_25 ey8_25 => ?_)
  replace h := h y8_25 ey8_25
  refine v_istore C dX0_raiseRow_25 (by decide) (Nat.le_of_ble_eq_true rfl) (lv' := [some (.inr (21, 0)), some (.inl x1), some (.inl x2), some (.inl x3), some (.inl x4), some (.inl x5), some (.inl y6_9), some (.inl r13), some (.inl y8_25), none, none, none, none]) rfl ?_
  refine v_iload_n C dX0_raiseRow_27 rfl ?_
  refine v_iload C dX0_raiseRow_28 rfl ?_
  refine v_imul C dX0_raiseRow_30 h.1 ?_
  replace h := h.2
  refine v_iload C dX0_raiseRow_31 rfl ?_
  refine v_iadd C dX0_raiseRow_33 h.1 ?_
  replace h := h.2
  refine v_iconst C dX0_raiseRow_34 (by decide) ?_
  refine v_iload_n C dX0_raiseRow_35 rfl ?_
  refine v_ishl C dX0_raiseRow_36 ?_
  refine v_iadd C dX0_raiseRow_37 h.1 ?_
  replace h := h.2
  refine v_nm (fun y9_38 ey9_38 => ?_)
  replace h := h y9_38 ey9_38
  refine v_istore C dX0_raiseRow_38 (by decide) (Nat.le_of_ble_eq_true rfl) (lv' := [some (.inr (21, 0)), some (.inl x1), some (.inl x2), some (.inl x3), some (.inl x4), some (.inl x5), some (.inl y6_9), some (.inl r13), some (.inl y8_25), some (.inl y9_38), none, none, none]) rfl ?_
  refine v_iconst C dX0_raiseRow_40 (by decide) ?_
  refine v_istore C dX0_raiseRow_41 (by decide) (Nat.le_of_ble_eq_true rfl) (lv' := [some (.inr (21, 0)), some (.inl x1), some (.inl x2), some (.inl x3), some (.inl x4), some (.inl x5), some (.inl y6_9), some (.inl r13), some (.inl y8_25), some (.inl y9_38), some (.inl 0), none, none]) rfl ?_
  refine v_iconst C dX0_raiseRow_43 (by decide) ?_
  refine v_iload C dX0_raiseRow_44 rfl ?_
  refine v_invS C ctJ6_bitCount_0f7a4 dX0_raiseRow_46 ivX0_82 ⟨by decide, by decide, rfl, rfl⟩ (x5 : Int) rfl (st := [.inl 1]) rfl (Nat.le_of_ble_eq_true rfl) h (fun o M46 oM46 io46 h => ?_)
  obtain ⟨r46, rfl, h⟩ := rI_out h
  refine v_push ?_
  refine v_ishl C dX0_raiseRow_49 ?_
  refine v_nm (fun y11_50 ey11_50 => ?_)
  replace h := h y11_50 ey11_50
  refine v_istore C dX0_raiseRow_50 (by decide) (Nat.le_of_ble_eq_true rfl) (lv' := [some (.inr (21, 0)), some (.inl x1), some (.inl x2), some (.inl x3), some (.inl x4), some (.inl x5), some (.inl y6_9), some (.inl r13), some (.inl y8_25), some (.inl y9_38), some (.inl 0), some (.inl y11_50), none]) rfl ?_
  refine v_weak [some (.inr (21, 0)), none, none, none, some (.inl x4), some (.inl x5), none, none, some (.inl y8_25), some (.inl y9_38), some (.inl 0), some (.inl y11_50), none] ⟨rfl, rfl, rfl, rfl, rfl, rfl, rfl, trivial⟩ ?_
  exact h
set_option maxHeartbeats 4000000 in
set_option maxRecDepth 20000 in
theorem sgX0_raiseRow_52 {κ : Kx} {K : Kont} {M : Mem} (C : Cx κ RX0 cX0_raiseRow 13 none rmX0_raiseRow domC) (x4 : Int) (x5 : Int) (x8 : Int) (x9 : Int) (x10 : Int) (x11 : Int)
    (h :
    ((x11 ≤ 0 →
      K none M) ∧
     (¬ (x11 ≤ 0) →
      inR (x9 + x10) ∧
      (0 ≤ (x9 + x10) ∧ (x9 + x10) < 12928) ∧
      inR (x4 + (M 22 0 (x9 + x10))) ∧
      ∀ y12_70 : Int, y12_70 = x4 + (M 22 0 (x9 + x10)) →
      inR (x8 + x10) ∧
      (0 ≤ (x8 + x10) ∧ (x8 + x10) < 12928) ∧
      ((y12_70 ≤ (M 22 0 (x8 + x10)) →
        inR (x10 - x5) ∧
        ∀ y10_107 : Int, y10_107 = bAnd (x10 - x5) x5 →
        inR (x11 + (-1)) ∧
        V κ 13 M 52 [some (.inr (21, 0)), none, none, none, some (.inl x4), some (.inl x5), none, none, some (.inl x8), some (.inl x9), some (.inl y10_107), some (.inl (x11 + (-1))), none] [] K) ∧
       (¬ (y12_70 ≤ (M 22 0 (x8 + x10))) →
        inR (x8 + x10) ∧
        (0 ≤ (x8 + x10) ∧ (x8 + x10) < 12928) ∧
        ∀ M98 : Mem, M98 = up3 M 22 0 (x8 + x10) y12_70 →
        inR (x10 - x5) ∧
        ∀ y10_107 : Int, y10_107 = bAnd (x10 - x5) x5 →
        inR (x11 + (-1)) ∧
        V κ 13 M98 52 [some (.inr (21, 0)), none, none, none, some (.inl x4), some (.inl x5), none, none, some (.inl x8), some (.inl x9), some (.inl y10_107), some (.inl (x11 + (-1))), none] [] K))))) : V κ 13 M 52 [some (.inr (21, 0)), none, none, none, some (.inl x4), some (.inl x5), none, none, some (.inl x8), some (.inl x9), some (.inl x10), some (.inl x11), none] [] K := by
  refine v_iload C dX0_raiseRow_52 rfl ?_
  refine v_if C dX0_raiseRow_54 (tgt := 115) (by decide) (P := x11 ≤ 0) rfl (fun c54 => ?_) (fun c54 => ?_)
  · replace h := h.1 c54
    exact v_vret C dX0_raiseRow_115 h
  · replace h := h.2 c54
    refine v_iload C dX0_raiseRow_57 rfl ?_
    refine v_aload_n C dX0_raiseRow_59 rfl ?_
    refine v_get C dX0_raiseRow_60 flX0_9 rfl (by decide) (by decide) (w := .inr (22, 0)) rfl ?_
    refine v_iload C dX0_raiseRow_63 rfl ?_
    refine v_iload C dX0_raiseRow_65 rfl ?_
    refine v_iadd C dX0_raiseRow_67 h.1 ?_
    replace h := h.2
    refine v_iald C dX0_raiseRow_68 rfl h.1.1 h.1.2 ?_
    replace h := h.2
    refine v_iadd C dX0_raiseRow_69 h.1 ?_
    replace h := h.2
    refine v_nm (fun y12_70 ey12_70 => ?_)
    replace h := h y12_70 ey12_70
    refine v_istore C dX0_raiseRow_70 (by decide) (Nat.le_of_ble_eq_true rfl) (lv' := [some (.inr (21, 0)), none, none, none, some (.inl x4), some (.inl x5), none, none, some (.inl x8), some (.inl x9), some (.inl x10), some (.inl x11), some (.inl y12_70)]) rfl ?_
    refine v_iload C dX0_raiseRow_72 rfl ?_
    refine v_aload_n C dX0_raiseRow_74 rfl ?_
    refine v_get C dX0_raiseRow_75 flX0_9 rfl (by decide) (by decide) (w := .inr (22, 0)) rfl ?_
    refine v_iload C dX0_raiseRow_78 rfl ?_
    refine v_iload C dX0_raiseRow_80 rfl ?_
    refine v_iadd C dX0_raiseRow_82 h.1 ?_
    replace h := h.2
    refine v_iald C dX0_raiseRow_83 rfl h.1.1 h.1.2 ?_
    replace h := h.2
    refine v_icmp C dX0_raiseRow_84 (tgt := 99) (by decide) (P := y12_70 ≤ (M 22 0 (x8 + x10))) rfl (fun c84 => ?_) (fun c84 => ?_)
    · replace h := h.1 c84
      refine v_iload C dX0_raiseRow_99 rfl ?_
      refine v_iload C dX0_raiseRow_101 rfl ?_
      refine v_isub C dX0_raiseRow_103 h.1 ?_
      replace h := h.2
      refine v_iload C dX0_raiseRow_104 rfl ?_
      refine v_iand C dX0_raiseRow_106 ?_
      refine v_nm (fun y10_107 ey10_107 => ?_)
      replace h := h y10_107 ey10_107
      refine v_istore C dX0_raiseRow_107 (by decide) (Nat.le_of_ble_eq_true rfl) (lv' := [some (.inr (21, 0)), none, none, none, some (.inl x4), some (.inl x5), none, none, some (.inl x8), some (.inl x9), some (.inl y10_107), some (.inl x11), some (.inl y12_70)]) rfl ?_
      refine v_iinc C dX0_raiseRow_109 (by decide) rfl h.1 (lv' := [some (.inr (21, 0)), none, none, none, some (.inl x4), some (.inl x5), none, none, some (.inl x8), some (.inl x9), some (.inl y10_107), some (.inl (x11 + (-1))), some (.inl y12_70)]) rfl ?_
      replace h := h.2
      refine v_goto C dX0_raiseRow_112 (tgt := 52) (by decide) ?_
      refine v_weak [some (.inr (21, 0)), none, none, none, some (.inl x4), some (.inl x5), none, none, some (.inl x8), some (.inl x9), some (.inl y10_107), some (.inl (x11 + (-1))), none] ⟨rfl, rfl, rfl, rfl, rfl, rfl, rfl, trivial⟩ ?_
      exact h
    · replace h := h.2 c84
      refine v_aload_n C dX0_raiseRow_87 rfl ?_
      refine v_get C dX0_raiseRow_88 flX0_9 rfl (by decide) (by decide) (w := .inr (22, 0)) rfl ?_
      refine v_iload C dX0_raiseRow_91 rfl ?_
      refine v_iload C dX0_raiseRow_93 rfl ?_
      refine v_iadd C dX0_raiseRow_95 h.1 ?_
      replace h := h.2
      refine v_iload C dX0_raiseRow_96 rfl ?_
      refine v_iast C dX0_raiseRow_98 rfl h.1.1 h.1.2 ?_
      replace h := h.2
      refine v_nmM (fun M98 eM98 => ?_)
      replace h := h M98 eM98
      refine v_iload C dX0_raiseRow_99 rfl ?_
      refine v_iload C dX0_raiseRow_101 rfl ?_
      refine v_isub C dX0_raiseRow_103 h.1 ?_
      replace h := h.2
      refine v_iload C dX0_raiseRow_104 rfl ?_
      refine v_iand C dX0_raiseRow_106 ?_
      refine v_nm (fun y10_107 ey10_107 => ?_)
      replace h := h y10_107 ey10_107
      refine v_istore C dX0_raiseRow_107 (by decide) (Nat.le_of_ble_eq_true rfl) (lv' := [some (.inr (21, 0)), none, none, none, some (.inl x4), some (.inl x5), none, none, some (.inl x8), some (.inl x9), some (.inl y10_107), some (.inl x11), some (.inl y12_70)]) rfl ?_
      refine v_iinc C dX0_raiseRow_109 (by decide) rfl h.1 (lv' := [some (.inr (21, 0)), none, none, none, some (.inl x4), some (.inl x5), none, none, some (.inl x8), some (.inl x9), some (.inl y10_107), some (.inl (x11 + (-1))), some (.inl y12_70)]) rfl ?_
      replace h := h.2
      refine v_goto C dX0_raiseRow_112 (tgt := 52) (by decide) ?_
      refine v_weak [some (.inr (21, 0)), none, none, none, some (.inl x4), some (.inl x5), none, none, some (.inl x8), some (.inl x9), some (.inl y10_107), some (.inl (x11 + (-1))), none] ⟨rfl, rfl, rfl, rfl, rfl, rfl, rfl, trivial⟩ ?_
      exact h
abbrev spX0_raiseRow (p t nx g rest : Int) (M : Mem) (K : Kont) : Prop := (WFf (cFilm M 1) ∧ (0 ≤ p ∧ p < M 5 1 7) ∧ (0 ≤ t ∧ t < nx ∧ nx ≤ M 5 1 0) ∧ (-2000 ≤ g ∧ g ≤ 2000) ∧ (0 ≤ rest ∧ rest < 128 ∧ ndS (cFilm M 1) p + bShl 1 p + rest < bShl 1 (M 5 1 7)) ∧
    (∀ s : Int, 0 ≤ s → s < bShl 1 (M 5 1 7) → 0 ≤ M 22 0 (nx * bShl 1 (M 5 1 7) + s) ∧ M 22 0 (nx * bShl 1 (M 5 1 7) + s) ≤ 200000)) ∧
  ∀ M', AgB M M' → (∀ s : Nat, s &&& rest.toNat = s → M' 22 0 (t * bShl 1 (M 5 1 7) + ndS (cFilm M 1) p + s) = max (M 22 0 (t * bShl 1 (M 5 1 7) + ndS (cFilm M 1) p + s)) (g + M 22 0 (nx * bShl 1 (M 5 1 7) + ndS (cFilm M 1) p + bShl 1 p + s))) →
    (∀ j, (∀ s : Nat, s &&& rest.toNat = s → j ≠ t * bShl 1 (M 5 1 7) + ndS (cFilm M 1) p + s) → M' 22 0 j = M 22 0 j) → K none M'
theorem ndS_rng {F : Film} (hf : WFf F) {p : Int} (hp : 0 ≤ p) (hp2 : p < F 3 0 0) : 0 ≤ ndS F p ∧ ndS F p ≤ 64 := by
  have w := wf_p hf hp hp2
  unfold ndS
  split
  · omega
  · have h1 := shl_le7 (k := F 12 p 0) (by omega) (by omega)
    have h2 := shl_lt (k := F 12 p 0) (n := 7) (by omega) (by omega) (by omega)
    have h3 := shl_le7 (k := 7) (by omega) (by omega)
    omega
theorem sub_le {s r : Nat} (h : s &&& r = s) : s ≤ r := by
  have : s &&& r ≤ r := Nat.and_le_right
  omega
theorem ctX0_raiseRow : CtX0_raiseRow spX0_raiseRow := by
  refine ct_of (by decide) dmC (fun _ => Nat.le_of_ble_eq_true rfl) ?_
  intro κ a M K C oM h
  obtain ⟨p, t, nx, g, rest⟩ := a
  dsimp only [spX0_raiseRow] at h
  obtain ⟨⟨hf, hp, ht, hg, hr, htb⟩, hk⟩ := h
  have hT := hf.1
  have hnP := hf.2.2.2.1
  have hnd := ndS_rng hf hp.1 hp.2
  simp only [cFilm] at hT hnP
  have hw := shl_le7 (k := M 5 1 7) (by omega) (by omega)
  have hsp := shl_le7 (k := p) hp.1 (by omega)
  generalize hW : bShl 1 (M 5 1 7) = w at *
  generalize hN : ndS (cFilm M 1) p = nd at *
  generalize hQ : bShl 1 p = own at *
  have m1 := mul_rng (a := t) (b := w) (A := 100) (B := 128) ht.1 (by omega) (by omega) hw.2
  have m2 := mul_rng (a := nx) (b := w) (A := 100) (B := 128) (by omega) (by omega) (by omega) hw.2
  have m3 : t * w + w ≤ nx * w := by
    have : (t + 1) * w ≤ nx * w := Int.mul_le_mul_of_nonneg_right (by omega) (by omega)
    rw [Int.add_mul, Int.one_mul] at this
    exact this
  have m4 : nx * w + w ≤ 12928 := by
    have : (nx + 1) * w ≤ 101 * 128 := Int.mul_le_mul (by omega) hw.2 (by omega) (by omega)
    rw [Int.add_mul, Int.one_mul] at this
    omega
  have pn := pop_le rest.toNat (by omega)
  have loop : ∀ (n k : Nat) (N : Mem), k + n = 2 ^ popN rest.toNat → AgB M N → (∀ j, j < k → N 22 0 (t * w + nd + sqP rest.toNat j) = max (M 22 0 (t * w + nd + sqP rest.toNat j)) (g + M 22 0 (nx * w + nd + own + sqP rest.toNat j))) →
      (∀ j, (∀ i, i < k → j ≠ t * w + nd + sqP rest.toNat i) → N 22 0 j = M 22 0 j) →
      V κ 13 N 52 [some (.inr (21, 0)), none, none, none, some (.inl g), some (.inl rest), none, none, some (.inl (t * w + nd)), some (.inl (nx * w + nd + own)), some (.inl (sqP rest.toNat k : Int)), some (.inl (n : Int)), none] [] K := by
    intro n
    induction n with
    | zero =>
      intro k N hn hA h1 h2
      refine sgX0_raiseRow_52 C _ _ _ _ _ _ ⟨fun c => ?_, fun c => absurd (by omega) c⟩
      refine hk N hA (fun s hs => ?_) (fun j hj => h2 j (fun i hi => hj _ (sqP_sub _ i)))
      obtain ⟨i, hi, e⟩ := parts_all (rest := rest.toNat) (s := s) (by omega) hs
      rw [← e]
      exact h1 i (by omega)
    | succ n ih =>
      intro k N hn hA h1 h2
      have hle := sub_le (sqP_sub rest.toNat k)
      have hnx : N 22 0 (nx * w + nd + own + sqP rest.toNat k) = M 22 0 (nx * w + nd + own + sqP rest.toNat k) := by
        refine h2 _ (fun i hi => ?_)
        have := sub_le (sqP_sub rest.toNat i)
        omega
      have hbd := htb (nd + own + sqP rest.toNat k) (by omega) (by omega)
      have e9 : nx * w + (nd + own + (sqP rest.toNat k : Int)) = nx * w + nd + own + sqP rest.toNat k := by omega
      rw [e9] at hbd
      have hsq : bAnd ((sqP rest.toNat k : Int) - rest) rest = (sqP rest.toNat (k + 1) : Int) := by
        have := bAnd_sub (a := sqP rest.toNat k) (r := rest.toNat) (by omega) (by omega)
        rw [oi_nat hr.1] at this
        exact this
      have hpw : 2 ^ popN rest.toNat ≤ 2 ^ 7 := Nat.pow_le_pow_right (by decide) pn
      -- what the place holds behind this part
      have old : N 22 0 (t * w + nd + sqP rest.toNat k) = M 22 0 (t * w + nd + sqP rest.toNat k) ∨ N 22 0 (t * w + nd + sqP rest.toNat k) = max (M 22 0 (t * w + nd + sqP rest.toNat k)) (g + M 22 0 (nx * w + nd + own + sqP rest.toNat k)) := by
        by_cases hv : ∃ i, i < k ∧ sqP rest.toNat i = sqP rest.toNat k
        · obtain ⟨i, hi, e⟩ := hv
          right
          rw [← e]
          exact h1 i hi
        · left
          refine h2 _ (fun i hi z => hv ⟨i, hi, by omega⟩)
      have fin : ∀ N2 : Mem, AgB N N2 → N2 22 0 (t * w + nd + sqP rest.toNat k) = max (M 22 0 (t * w + nd + sqP rest.toNat k)) (g + M 22 0 (nx * w + nd + own + sqP rest.toNat k)) → (∀ j, j ≠ t * w + nd + sqP rest.toNat k → N2 22 0 j = N 22 0 j) →
          inR ((sqP rest.toNat k : Int) - rest) ∧ ∀ y10 : Int, y10 = bAnd ((sqP rest.toNat k : Int) - rest) rest → inR (((n + 1 : Nat) : Int) + (-1)) ∧
          V κ 13 N2 52 [some (.inr (21, 0)), none, none, none, some (.inl g), some (.inl rest), none, none, some (.inl (t * w + nd)), some (.inl (nx * w + nd + own)), some (.inl y10), some (.inl (((n + 1 : Nat) : Int) + (-1))), none] [] K := by
        intro N2 hA2 hv ho
        refine ⟨by omega, fun y ey => ⟨by omega, ?_⟩⟩
        have en : ((n + 1 : Nat) : Int) + (-1) = (n : Int) := by omega
        rw [ey, hsq, en]
        refine ih (k + 1) N2 (by omega) (hA.tr hA2) (fun j hj => ?_) (fun j hj => ?_)
        · by_cases e : sqP rest.toNat j = sqP rest.toNat k
          · rw [e]; exact hv
          · rw [ho _ (by omega)]
            exact h1 j (by
              rcases Nat.lt_or_ge j k with q | q
              · exact q
              · have : j = k := by omega
                rw [this] at e
                exact absurd rfl e)
        · rw [ho j (hj k (by omega))]
          exact h2 j (fun i hi => hj i (by omega))
      refine sgX0_raiseRow_52 C _ _ _ _ _ _ ⟨fun c => absurd c (by omega), fun c => ⟨by omega, by omega, by rw [hnx]; omega, fun y ey => ⟨by omega, by omega, fun c2 => ?_, fun c2 => ⟨by omega, by omega, fun N2 eN2 => ?_⟩⟩⟩⟩
      · rw [hnx] at ey
        refine fin N AgB.rf ?_ (fun _ _ => rfl)
        rcases old with o | o
        · omega
        · exact o
      · rw [hnx] at ey
        rw [eN2]
        refine fin _ (AgB.up _ _ _) ?_ (fun j hj => up3_j _ _ _ _ _ hj)
        rw [up3_s, ey]
        rcases old with o | o <;> omega
  have tw : t * w ≤ 12800 := by omega
  refine sgX0_raiseRow_0 C p t nx g rest (fun y6 ey6 => ?_)
  rw [hW] at ey6
  rw [ey6]
  refine ⟨by omega, ?_⟩
  show inR (t * w) ∧ inR (t * w + ndS (cFilm M 1) p) ∧ _
  rw [hN]
  refine ⟨by omega, by omega, fun y8 ey8 => ⟨by omega, by omega, ?_, fun y9 ey9 => ⟨by omega, fun y11 ey11 => ?_⟩⟩⟩
  · rw [hQ]
    omega
  · rw [hQ] at ey9
    rw [ey8, ey9, ey11]
    have e11 : bShl 1 (popN rest.toNat : Int) = ((2 ^ popN rest.toNat : Nat) : Int) := bShl_key _ (by omega)
    rw [e11]
    exact loop (2 ^ popN rest.toNat) 0 M (by omega) AgB.rf (fun j hj => by omega) (fun j hj => rfl)
end
section
/-! ===== BestFinder: tryPicture, solve ===== -/
/-- sets behind which a picture can be told, as far as sets go -/
def tcond (F : Film) (A p told : Int) : Prop := (0 ≤ told ∧ told < bShl 1 (F 3 0 0)) ∧ (∀ k, 0 ≤ k → k < 7 → bit told k = true → bit A k = true) ∧ bit told p = false ∧ (F 12 p 0 = -4 ∨ bit told (F 12 p 0) = true)
def rstS (F : Film) (A p : Int) : Int := bAnd A (bXor (bOr (bShl 1 p) (ndS F p)) (-1))
theorem nd_bit {F : Film} (hf : WFf F) {p : Int} (hp : 0 ≤ p) (hp2 : p < F 3 0 0) {k : Int} (hk : 0 ≤ k) : bit (ndS F p) k = decide (F 12 p 0 ≠ -4 ∧ k = F 12 p 0) := by
  have w := wf_p hf hp hp2
  unfold ndS
  split
  · rename_i h
    rw [bit_0]
    simp [h]
  · rename_i h
    rw [bit_shl (by omega) (by omega) hk]
    simp [h]
theorem or_rng7 {x y : Int} (hx : 0 ≤ x) (hx2 : x < 128) (hy : 0 ≤ y) (hy2 : y < 128) : 0 ≤ bOr x y ∧ bOr x y < 128 := by
  rw [bOr_nat hx (by omega) hy (by omega)]
  have := Nat.or_lt_two_pow (x := x.toNat) (y := y.toNat) (n := 7) (by omega) (by omega)
  omega
theorem bit_or2 {x y k : Int} (hx : 0 ≤ x) (hx2 : x < 128) (hy : 0 ≤ y) (hy2 : y < 128) : bit (bOr x y) k = (bit x k || bit y k) := by
  rw [bOr_nat hx (by omega) hy (by omega)]
  unfold bit
  rw [Int.toNat_natCast, Nat.testBit_or]
theorem shl_lt128 {p : Int} (hp : 0 ≤ p) (hp2 : p < 7) : 1 ≤ bShl 1 p ∧ bShl 1 p < 128 := by
  have h1 := shl_le7 (k := p) hp (by omega)
  have h2 := shl_lt (k := p) (n := 7) hp hp2 (by omega)
  have h3 := shl_le7 (k := 7) (by omega) (by omega)
  omega
theorem rst_bit {F : Film} (hf : WFf F) {A p : Int} (hA : 0 ≤ A) (hA2 : A < 128) (hp : 0 ≤ p) (hp2 : p < F 3 0 0) {k : Int} (hk : 0 ≤ k) : bit (rstS F A p) k = (bit A k && !(decide (k = p) || decide (F 12 p 0 ≠ -4 ∧ k = F 12 p 0))) := by
  have w := wf_p hf hp hp2
  have h1 := shl_lt128 hp w.2.1
  have h2 := ndS_rng hf hp hp2
  have h3 := or_rng7 (x := bShl 1 p) (y := ndS F p) (by omega) (by omega) (by omega) (by omega)
  unfold rstS
  rw [bit_not hA hA2 h3.1 h3.2, bit_or2 (by omega) (by omega) (by omega) (by omega), bit_shl hp (by omega) hk, nd_bit hf hp hp2 hk]
theorem rst_rng {F : Film} (hf : WFf F) {A p : Int} (hA : 0 ≤ A) (hA2 : A < 128) (hp : 0 ≤ p) (hp2 : p < F 3 0 0) : 0 ≤ rstS F A p ∧ rstS F A p < 128 := by
  have w := wf_p hf hp hp2
  have h1 := shl_lt128 hp w.2.1
  have h2 := ndS_rng hf hp hp2
  have h3 := or_rng7 (x := bShl 1 p) (y := ndS F p) (by omega) (by omega) (by omega) (by omega)
  exact not_rng hA hA2 h3.1 h3.2
theorem sub_bit {s : Nat} {r : Int} (h : s &&& r.toNat = s) {k : Int} (hb : bit (s : Int) k = true) : bit r k = true := by
  unfold bit at hb ⊢
  rw [Int.toNat_natCast] at hb
  rw [← h, Nat.testBit_and, Bool.and_eq_true] at hb
  exact hb.2
theorem bit_sub {s : Nat} {r : Int} (hr : 0 ≤ r) (hr2 : r < 128) (hs : s < 128) (h : ∀ k, 0 ≤ k → k < 7 → bit (s : Int) k = true → bit r k = true) : s &&& r.toNat = s := by
  apply Nat.eq_of_testBit_eq
  intro i
  rw [Nat.testBit_and]
  by_cases hi : i < 7
  · have := h i (by omega) (by omega)
    unfold bit at this
    rw [Int.toNat_natCast, Int.toNat_natCast] at this
    cases hsi : s.testBit i
    · rfl
    · rw [this hsi]
      rfl
  · rw [Nat.testBit_lt_two_pow (Nat.lt_of_lt_of_le (show s < 2 ^ 7 by omega) (Nat.pow_le_pow_right (by decide) (by omega)))]
    rfl
/-- the sum of what is needed and a part of the rest, as a set -/
theorem nd_add {F : Film} (hf : WFf F) {A p : Int} (hA : 0 ≤ A) (hA2 : A < bShl 1 (F 3 0 0)) (hp : 0 ≤ p) (hp2 : p < F 3 0 0) {s : Nat} (hs : s &&& (rstS F A p).toNat = s) :
    (0 ≤ ndS F p + s ∧ ndS F p + s < 128) ∧ ∀ k, 0 ≤ k → k < 7 → bit (ndS F p + s) k = (bit (s : Int) k || decide (F 12 p 0 ≠ -4 ∧ k = F 12 p 0)) := by
  have w := wf_p hf hp hp2
  have hn3 := hf.2.2.2.1
  have hw := shl_le7 (k := F 3 0 0) (by omega) (by omega)
  have hr := rst_rng hf hA (by omega) hp hp2
  have hle := sub_le hs
  by_cases e : F 12 p 0 = -4
  · have : ndS F p = 0 := by unfold ndS; rw [if_pos e]
    rw [this, Int.zero_add]
    refine ⟨by omega, fun k k0 k1 => ?_⟩
    simp [e]
  · have hnd : ndS F p = bShl 1 (F 12 p 0) := by unfold ndS; rw [if_neg e]
    have hq : bit (s : Int) (F 12 p 0) = false := by
      cases hb : bit (s : Int) (F 12 p 0)
      · rfl
      · have := sub_bit hs hb
        rw [rst_bit hf hA (by omega) hp hp2 (by omega)] at this
        simp [e] at this
    have h1 := shl_lt128 (p := F 12 p 0) (by omega) (by omega)
    have ha := add_bit (s := s) (q := F 12 p 0) (by omega) (by omega) (by omega) (by omega) hq
    have hc : ndS F p + (s : Int) = bOr s (bShl 1 (F 12 p 0)) := by rw [hnd, Int.add_comm, ha]
    rw [hc]
    refine ⟨or_rng7 (by omega) (by omega) (by omega) h1.2, fun k k0 k1 => ?_⟩
    rw [bit_or2 (by omega) (by omega) (by omega) h1.2, bit_shl (by omega) (by omega) k0]
    simp [e]
theorem tcond_of {F : Film} (hf : WFf F) {A p : Int} (hA : 0 ≤ A) (hA2 : A < bShl 1 (F 3 0 0)) (hp : 0 ≤ p) (hp2 : p < F 3 0 0) (hn : F 12 p 0 = -4 ∨ bit A (F 12 p 0) = true) {s : Nat} (hs : s &&& (rstS F A p).toNat = s) : tcond F A p (ndS F p + s) := by
  have w := wf_p hf hp hp2
  have hn3 := hf.2.2.2.1
  have hw := shl_le7 (k := F 3 0 0) (by omega) (by omega)
  obtain ⟨h1, h2⟩ := nd_add hf hA hA2 hp hp2 hs
  have hsA : ∀ k, 0 ≤ k → k < 7 → bit (s : Int) k = true → bit A k = true ∧ k ≠ p := by
    intro k k0 k1 hb
    have := sub_bit hs hb
    rw [rst_bit hf hA (by omega) hp hp2 k0] at this
    simp at this
    exact ⟨this.1, this.2.1⟩
  have hall : ∀ k, 0 ≤ k → k < 7 → bit (ndS F p + s) k = true → bit A k = true := by
    intro k k0 k1 hb
    rw [h2 k k0 k1, Bool.or_eq_true, decide_eq_true_eq] at hb
    rcases hb with hb | hb
    · exact (hsA k k0 k1 hb).1
    · rcases hn with z | z
      · exact absurd z hb.1
      · rw [hb.2]; exact z
  refine ⟨⟨h1.1, lt_bit h1.1 h1.2 (by omega) (by omega) (fun k k0 k1 => ?_)⟩, hall, ?_, ?_⟩
  · cases hb : bit (ndS F p + s) k
    · rfl
    · have := hall k (by omega) k1 hb
      rw [bit_lt hA (by omega) (by omega) hA2 k0] at this
      cases this
  · cases hb : bit (ndS F p + s) p
    · rfl
    · rw [h2 p hp (by omega), Bool.or_eq_true, decide_eq_true_eq] at hb
      rcases hb with hb | hb
      · exact absurd rfl (hsA p hp (by omega) hb).2
      · omega
  · by_cases e : F 12 p 0 = -4
    · exact Or.inl e
    · right
      rw [h2 _ (by omega) (by omega), Bool.or_eq_true, decide_eq_true_eq]
      exact Or.inr ⟨e, rfl⟩
theorem tcond_s {F : Film} (hf : WFf F) {A p told : Int} (hA : 0 ≤ A) (hA2 : A < bShl 1 (F 3 0 0)) (hp : 0 ≤ p) (hp2 : p < F 3 0 0) (h : tcond F A p told) : ∃ s : Nat, s &&& (rstS F A p).toNat = s ∧ told = ndS F p + s := by
  have w := wf_p hf hp hp2
  have hn3 := hf.2.2.2.1
  have hw := shl_le7 (k := F 3 0 0) (by omega) (by omega)
  obtain ⟨h1, h2, h3, h4⟩ := h
  have hr := rst_rng hf hA (by omega) hp hp2
  by_cases e : F 12 p 0 = -4
  · have hnd : ndS F p = 0 := by unfold ndS; rw [if_pos e]
    refine ⟨told.toNat, bit_sub hr.1 hr.2 (by omega) (fun k k0 k1 hb => ?_), by omega⟩
    rw [oi_nat h1.1] at hb
    rw [rst_bit hf hA (by omega) hp hp2 k0, h2 k k0 k1 hb]
    have : k ≠ p := fun z => by rw [z, h3] at hb; cases hb
    simp [this, e]
  · have hnd : ndS F p = bShl 1 (F 12 p 0) := by unfold ndS; rw [if_neg e]
    have hb4 : bit told (F 12 p 0) = true := by rcases h4 with z | z; exact absurd z e; exact z
    have h5 := shl_lt128 (p := F 12 p 0) (by omega) (by omega)
    -- told without what is needed
    have hx := not_rng (a := told) (x := bShl 1 (F 12 p 0)) h1.1 (by omega) (by omega) h5.2
    have hxb : ∀ k, 0 ≤ k → bit (bAnd told (bXor (bShl 1 (F 12 p 0)) (-1))) k = (bit told k && !decide (k = F 12 p 0)) := fun k k0 => by
      rw [bit_not h1.1 (by omega) (by omega) h5.2, bit_shl (by omega) (by omega) k0]
    generalize bAnd told (bXor (bShl 1 (F 12 p 0)) (-1)) = x at hx hxb
    have hxq : bit x (F 12 p 0) = false := by rw [hxb _ (by omega)]; simp
    have ha := add_bit (s := x) (q := F 12 p 0) hx.1 hx.2 (by omega) (by omega) hxq
    refine ⟨x.toNat, bit_sub hr.1 hr.2 (by omega) (fun k k0 k1 hb => ?_), ?_⟩
    · rw [oi_nat hx.1, hxb k k0, Bool.and_eq_true] at hb
      rw [rst_bit hf hA (by omega) hp hp2 k0, h2 k k0 k1 hb.1]
      have hkp : k ≠ p := fun z => by rw [z, h3] at hb; cases hb.1
      have hkq : k ≠ F 12 p 0 := by
        have := hb.2
        simpa using this
      simp [hkp, hkq]
    · rw [oi_nat hx.1, hnd, Int.add_comm, ha]
      refine bit_ext h1.1 (by omega) (or_rng7 hx.1 hx.2 (by omega) h5.2).1 (or_rng7 hx.1 hx.2 (by omega) h5.2).2 (fun k k0 k1 => ?_)
      rw [bit_or2 hx.1 hx.2 (by omega) h5.2, bit_shl (by omega) (by omega) k0, hxb k k0]
      by_cases z : k = F 12 p 0
      · rw [z, hb4]; simp
      · simp [z]
def tpF (M : Mem) (F : Film) (S Q : Int → Int) (b w p t told : Int) : Nat → Int → Int
  | 0, x => x
  | k + 1, x => if ownW F S p k t = 0 then max (tpF M F S Q b w p t told k x) (gainW F Q p k t + M 22 0 (min (t + F 13 p k + b) (F 0 0 0) * w + told + bShl 1 p)) else tpF M F S Q b w p t told k x
/-! ===== GapTellings$BestFinder.tryPicture ===== -/
abbrev rmX0_tryPicture : Room := { frames := 2, cells := 0, slots := 0, locals := 54 }
abbrev argX0_tryPicture (a : Int × Int × Int × Int × Int) : List PV := [.inr (21, 0), .inr (14, a.1), .inl a.2.1, .inl a.2.2.1, .inl a.2.2.2.1, .inl a.2.2.2.2]
abbrev CtX0_tryPicture (sp : Int → Int → Int → Int → Int → Mem → Kont → Prop) : Prop := Ct yX0_tryPicture cX0_tryPicture 8 none rmX0_tryPicture domC argX0_tryPicture (fun a => sp a.1 a.2.1 a.2.2.1 a.2.2.2.1 a.2.2.2.2)
theorem dX0_tryPicture_0 : decode cX0_tryPicture 0 = .ok (.iload 5, 2) := by decide +kernel
theorem dX0_tryPicture_2 : decode cX0_tryPicture 2 = .ok (.iconst 1, 1) := by decide +kernel
theorem dX0_tryPicture_3 : decode cX0_tryPicture 3 = .ok (.iload_n 3, 1) := by decide +kernel
theorem dX0_tryPicture_4 : decode cX0_tryPicture 4 = .ok (.ishl, 1) := by decide +kernel
theorem dX0_tryPicture_5 : decode cX0_tryPicture 5 = .ok (.aload_n 0, 1) := by decide +kernel
theorem dX0_tryPicture_6 : decode cX0_tryPicture 6 = .ok (.iload_n 3, 1) := by decide +kernel
theorem dX0_tryPicture_7 : decode cX0_tryPicture 7 = .ok (.invokevirtual 48, 3) := by decide +kernel
theorem dX0_tryPicture_10 : decode cX0_tryPicture 10 = .ok (.ior, 1) := by decide +kernel
theorem dX0_tryPicture_11 : decode cX0_tryPicture 11 = .ok (.iconst (-1), 1) := by decide +kernel
theorem dX0_tryPicture_12 : decode cX0_tryPicture 12 = .ok (.ixor, 1) := by decide +kernel
theorem dX0_tryPicture_13 : decode cX0_tryPicture 13 = .ok (.iand, 1) := by decide +kernel
theorem dX0_tryPicture_14 : decode cX0_tryPicture 14 = .ok (.istore 6, 2) := by decide +kernel
theorem dX0_tryPicture_16 : decode cX0_tryPicture 16 = .ok (.iconst 0, 1) := by decide +kernel
theorem dX0_tryPicture_17 : decode cX0_tryPicture 17 = .ok (.istore 7, 2) := by decide +kernel
theorem dX0_tryPicture_19 : decode cX0_tryPicture 19 = .ok (.iload 7, 2) := by decide +kernel
theorem dX0_tryPicture_21 : decode cX0_tryPicture 21 = .ok (.aload_n 0, 1) := by decide +kernel
theorem dX0_tryPicture_22 : decode cX0_tryPicture 22 = .ok (.getfield 15, 3) := by decide +kernel
theorem dX0_tryPicture_25 : decode cX0_tryPicture 25 = .ok (.getfield 38, 3) := by decide +kernel
theorem dX0_tryPicture_28 : decode cX0_tryPicture 28 = .ok (.iload_n 3, 1) := by decide +kernel
theorem dX0_tryPicture_29 : decode cX0_tryPicture 29 = .ok (.aaload, 1) := by decide +kernel
theorem dX0_tryPicture_30 : decode cX0_tryPicture 30 = .ok (.getfield 62, 3) := by decide +kernel
theorem dX0_tryPicture_33 : decode cX0_tryPicture 33 = .ok (.if_icmp .ge 49, 3) := by decide +kernel
theorem dX0_tryPicture_36 : decode cX0_tryPicture 36 = .ok (.aload_n 1, 1) := by decide +kernel
theorem dX0_tryPicture_37 : decode cX0_tryPicture 37 = .ok (.iload_n 3, 1) := by decide +kernel
theorem dX0_tryPicture_38 : decode cX0_tryPicture 38 = .ok (.iload 7, 2) := by decide +kernel
theorem dX0_tryPicture_40 : decode cX0_tryPicture 40 = .ok (.iload 4, 2) := by decide +kernel
theorem dX0_tryPicture_42 : decode cX0_tryPicture 42 = .ok (.invokevirtual 65, 3) := by decide +kernel
theorem dX0_tryPicture_45 : decode cX0_tryPicture 45 = .ok (.ifCond .ne 31, 3) := by decide +kernel
theorem dX0_tryPicture_48 : decode cX0_tryPicture 48 = .ok (.aload_n 0, 1) := by decide +kernel
theorem dX0_tryPicture_49 : decode cX0_tryPicture 49 = .ok (.iload_n 3, 1) := by decide +kernel
theorem dX0_tryPicture_50 : decode cX0_tryPicture 50 = .ok (.iload 4, 2) := by decide +kernel
theorem dX0_tryPicture_52 : decode cX0_tryPicture 52 = .ok (.aload_n 0, 1) := by decide +kernel
theorem dX0_tryPicture_53 : decode cX0_tryPicture 53 = .ok (.iload_n 3, 1) := by decide +kernel
theorem dX0_tryPicture_54 : decode cX0_tryPicture 54 = .ok (.iload 7, 2) := by decide +kernel
theorem dX0_tryPicture_56 : decode cX0_tryPicture 56 = .ok (.iload 4, 2) := by decide +kernel
theorem dX0_tryPicture_58 : decode cX0_tryPicture 58 = .ok (.iload_n 2, 1) := by decide +kernel
theorem dX0_tryPicture_59 : decode cX0_tryPicture 59 = .ok (.invokevirtual 71, 3) := by decide +kernel
theorem dX0_tryPicture_62 : decode cX0_tryPicture 62 = .ok (.aload_n 1, 1) := by decide +kernel
theorem dX0_tryPicture_63 : decode cX0_tryPicture 63 = .ok (.iload_n 3, 1) := by decide +kernel
theorem dX0_tryPicture_64 : decode cX0_tryPicture 64 = .ok (.iload 7, 2) := by decide +kernel
theorem dX0_tryPicture_66 : decode cX0_tryPicture 66 = .ok (.iload 4, 2) := by decide +kernel
theorem dX0_tryPicture_68 : decode cX0_tryPicture 68 = .ok (.invokevirtual 75, 3) := by decide +kernel
theorem dX0_tryPicture_71 : decode cX0_tryPicture 71 = .ok (.iload 6, 2) := by decide +kernel
theorem dX0_tryPicture_73 : decode cX0_tryPicture 73 = .ok (.invokevirtual 78, 3) := by decide +kernel
theorem dX0_tryPicture_76 : decode cX0_tryPicture 76 = .ok (.iinc 7 1, 3) := by decide +kernel
theorem dX0_tryPicture_79 : decode cX0_tryPicture 79 = .ok (.goto (-60), 3) := by decide +kernel
theorem dX0_tryPicture_82 : decode cX0_tryPicture 82 = .ok (.return_, 1) := by decide +kernel
theorem flX0_62 : FL RX0 62 3 4 := ⟨_, _, _, rfl, by decide, uwX3, Or.inr ⟨"GapTellings", (nw_mem (t_in1 (List.mem_of_getElem? (i := 79) (by decide +kernel))) (by decide +kernel))⟩⟩
theorem ivX0_65 : IV RX0 65 yX6_ownWhyNot cX6_ownWhyNot 6 (some .int) 3 := ⟨(tb_mem (t_in3 (List.mem_of_getElem? (i := 184) (by decide +kernel))) (by decide +kernel)), (tb_mem (t_in3 (List.mem_of_getElem? (i := 62) (by decide +kernel))) (by decide +kernel)), (tb_mem (t_in3 (List.mem_of_getElem? (i := 63) (by decide +kernel))) (by decide +kernel)), (tb_mem (t_in1 (List.mem_of_getElem? (i := 5) (by decide +kernel))) (by decide +kernel)), (tb_mem (t_in3 (List.mem_of_getElem? (i := 64) (by decide +kernel))) (by decide +kernel)), ⟨by decide +kernel, by decide +kernel, by decide +kernel⟩⟩
theorem ivX0_71 : IV RX0 71 yX0_nextFree cX0_nextFree 5 (some .int) 4 := ⟨(tb_mem (t_in3 (List.mem_of_getElem? (i := 185) (by decide +kernel))) (by decide +kernel)), (tb_mem (t_in3 (List.mem_of_getElem? (i := 186) (by decide +kernel))) (by decide +kernel)), (tb_mem (t_in3 (List.mem_of_getElem? (i := 187) (by decide +kernel))) (by decide +kernel)), (tb_mem (t_in1 (List.mem_of_getElem? (i := 8) (by decide +kernel))) (by decide +kernel)), (tb_mem (t_in3 (List.mem_of_getElem? (i := 188) (by decide +kernel))) (by decide +kernel)), ⟨by decide +kernel, by decide +kernel, by decide +kernel⟩⟩
theorem ivX0_75 : IV RX0 75 yX6_gainOf cX6_gainOf 8 (some .int) 3 := ⟨(tb_mem (t_in3 (List.mem_of_getElem? (i := 190) (by decide +kernel))) (by decide +kernel)), (tb_mem (t_in3 (List.mem_of_getElem? (i := 120) (by decide +kernel))) (by decide +kernel)), (tb_mem (t_in3 (List.mem_of_getElem? (i := 121) (by decide +kernel))) (by decide +kernel)), (tb_mem (t_in1 (List.mem_of_getElem? (i := 5) (by decide +kernel))) (by decide +kernel)), (tb_mem (t_in3 (List.mem_of_getElem? (i := 122) (by decide +kernel))) (by decide +kernel)), ⟨by decide +kernel, by decide +kernel, by decide +kernel⟩⟩
theorem ivX0_78 : IV RX0 78 yX0_raiseRow cX0_raiseRow 13 none 5 := ⟨(tb_mem (t_in3 (List.mem_of_getElem? (i := 191) (by decide +kernel))) (by decide +kernel)), (tb_mem (t_in3 (List.mem_of_getElem? (i := 192) (by decide +kernel))) (by decide +kernel)), (tb_mem (t_in3 (List.mem_of_getElem? (i := 193) (by decide +kernel))) (by decide +kernel)), (tb_mem (t_in1 (List.mem_of_getElem? (i := 8) (by decide +kernel))) (by decide +kernel)), (tb_mem (t_in3 (List.mem_of_getElem? (i := 194) (by decide +kernel))) (by decide +kernel)), ⟨by decide +kernel, by decide +kernel, by decide +kernel⟩⟩
set_option maxHeartbeats 4000000 in
set_option maxRecDepth 20000 in
theorem sgX0_tryPicture_0 {κ : Kx} {K : Kont} {M : Mem} (C : Cx κ RX0 cX0_tryPicture 8 none rmX0_tryPicture domC) (i1 : Int) (x2 : Int) (x3 : Int) (x4 : Int) (x5 : Int)
    (h :
    spX0_neededSet x3 M (rI (fun r7 M7 =>
    ∀ y6_14 : Int, y6_14 = bAnd x5 (bXor (bOr (bShl 1 x3) r7) (-1)) →
    V κ 8 M7 19 [some (.inr (21, 0)), some (.inr (14, i1)), some (.inl x2), some (.inl x3), some (.inl x4), none, some (.inl y6_14), some (.inl 0)] [] K))) : V κ 8 M 0 [some (.inr (21, 0)), some (.inr (14, i1)), some (.inl x2), some (.inl x3), some (.inl x4), some (.inl x5), none, none] [] K := by
  refine v_iload C dX0_tryPicture_0 rfl ?_
  refine v_iconst C dX0_tryPicture_2 (by decide) ?_
  refine v_iload_n C dX0_tryPicture_3 rfl ?_
  refine v_ishl C dX0_tryPicture_4 ?_
  refine v_aload_n C dX0_tryPicture_5 rfl ?_
  refine v_iload_n C dX0_tryPicture_6 rfl ?_
  refine v_invV C ctX0_neededSet dX0_tryPicture_7 ivX0_48 ⟨by decide, by decide, rfl, rfl⟩ (x3 : Int) (As := [.inl x3]) rfl rfl rfl (by decide) rfl (st := [.inl (bShl 1 x3), .inl x5]) rfl (Nat.le_of_ble_eq_true rfl) h (fun o M7 oM7 io7 h => ?_)
  obtain ⟨r7, rfl, h⟩ := rI_out h
  refine v_push ?_
  refine v_ior C dX0_tryPicture_10 ?_
  refine v_iconst C dX0_tryPicture_11 (by decide) ?_
  refine v_ixor C dX0_tryPicture_12 ?_
  refine v_iand C dX0_tryPicture_13 ?_
  refine v_nm (fun y6_14 ey6_14 => ?_)
  replace h := h y6_14 ey6_14
  refine v_istore C dX0_tryPicture_14 (by decide) (Nat.le_of_ble_eq_true rfl) (lv' := [some (.inr (21, 0)), some (.inr (14, i1)), some (.inl x2), some (.inl x3), some (.inl x4), some (.inl x5), some (.inl y6_14), none]) rfl ?_
  refine v_iconst C dX0_tryPicture_16 (by decide) ?_
  refine v_istore C dX0_tryPicture_17 (by decide) (Nat.le_of_ble_eq_true rfl) (lv' := [some (.inr (21, 0)), some (.inr (14, i1)), some (.inl x2), some (.inl x3), some (.inl x4), some (.inl x5), some (.inl y6_14), some (.inl 0)]) rfl ?_
  refine v_weak [some (.inr (21, 0)), some (.inr (14, i1)), some (.inl x2), some (.inl x3), some (.inl x4), none, some (.inl y6_14), some (.inl 0)] ⟨rfl, rfl, rfl, rfl, rfl, rfl, rfl, trivial⟩ ?_
  exact h
set_option maxHeartbeats 4000000 in
set_option maxRecDepth 20000 in
theorem sgX0_tryPicture_19 {κ : Kx} {K : Kont} {M : Mem} (C : Cx κ RX0 cX0_tryPicture 8 none rmX0_tryPicture domC) (i1 : Int) (x2 : Int) (x3 : Int) (x4 : Int) (x6 : Int) (x7 : Int)
    (h :
    (0 ≤ x3 ∧ x3 < 7) ∧
    (((M 11 (7 * 1 + x3) 4) ≤ x7 →
      K none M) ∧
     (¬ ((M 11 (7 * 1 + x3) 4) ≤ x7) →
      spX6_ownWhyNot i1 x3 x7 x4 M (rI (fun r42 M42 =>
      ((r42 ≠ 0 →
        inR (x7 + 1) ∧
        V κ 8 M42 19 [some (.inr (21, 0)), some (.inr (14, i1)), some (.inl x2), some (.inl x3), some (.inl x4), none, some (.inl x6), some (.inl (x7 + 1))] [] K) ∧
       (¬ (r42 ≠ 0) →
        spX0_nextFree x3 x7 x4 x2 M42 (rI (fun r59 M59 =>
        spX6_gainOf i1 x3 x7 x4 M59 (rI (fun r68 M68 =>
        spX0_raiseRow x3 x4 r59 r68 x6 M68 (rV (fun M73 =>
        inR (x7 + 1) ∧
        V κ 8 M73 19 [some (.inr (21, 0)), some (.inr (14, i1)), some (.inl x2), some (.inl x3), some (.inl x4), none, some (.inl x6), some (.inl (x7 + 1))] [] K))))))))))))) : V κ 8 M 19 [some (.inr (21, 0)), some (.inr (14, i1)), some (.inl x2), some (.inl x3), some (.inl x4), none, some (.inl x6), some (.inl x7)] [] K := by
  refine v_iload C dX0_tryPicture_19 rfl ?_
  refine v_aload_n C dX0_tryPicture_21 rfl ?_
  refine v_get C dX0_tryPicture_22 flX0_15 rfl (by decide) (by decide) (w := .inr (5, 1)) rfl ?_
  refine v_get C dX0_tryPicture_25 flX0_38 rfl (by decide) (by decide) (w := .inr (10, 1)) rfl ?_
  refine v_iload_n C dX0_tryPicture_28 rfl ?_
  refine v_aald C dX0_tryPicture_29 h.1.1 h.1.2 ?_
  replace h := h.2
  refine v_get C dX0_tryPicture_30 flX0_62 rfl (by decide) (by decide) (w := .inl (M 11 (7 * 1 + x3) 4)) rfl ?_
  refine v_icmp C dX0_tryPicture_33 (tgt := 82) (by decide) (P := (M 11 (7 * 1 + x3) 4) ≤ x7) rfl (fun c33 => ?_) (fun c33 => ?_)
  · replace h := h.1 c33
    exact v_vret C dX0_tryPicture_82 h
  · replace h := h.2 c33
    refine v_aload_n C dX0_tryPicture_36 rfl ?_
    refine v_iload_n C dX0_tryPicture_37 rfl ?_
    refine v_iload C dX0_tryPicture_38 rfl ?_
    refine v_iload C dX0_tryPicture_40 rfl ?_
    refine v_invV C ctX6_ownWhyNot dX0_tryPicture_42 ivX0_65 ⟨by decide, by decide, rfl, rfl⟩ ((i1, x3, x7, x4) : Int × Int × Int × Int) (As := [.inl x3, .inl x7, .inl x4]) rfl rfl rfl (by decide) rfl (st := []) rfl (Nat.le_of_ble_eq_true rfl) h (fun o M42 oM42 io42 h => ?_)
    obtain ⟨r42, rfl, h⟩ := rI_out h
    refine v_push ?_
    refine v_if C dX0_tryPicture_45 (tgt := 76) (by decide) (P := r42 ≠ 0) rfl (fun c45 => ?_) (fun c45 => ?_)
    · replace h := h.1 c45
      refine v_iinc C dX0_tryPicture_76 (by decide) rfl h.1 (lv' := [some (.inr (21, 0)), some (.inr (14, i1)), some (.inl x2), some (.inl x3), some (.inl x4), none, some (.inl x6), some (.inl (x7 + 1))]) rfl ?_
      replace h := h.2
      refine v_goto C dX0_tryPicture_79 (tgt := 19) (by decide) ?_
      refine v_weak [some (.inr (21, 0)), some (.inr (14, i1)), some (.inl x2), some (.inl x3), some (.inl x4), none, some (.inl x6), some (.inl (x7 + 1))] ⟨rfl, rfl, rfl, rfl, rfl, rfl, rfl, trivial⟩ ?_
      exact h
    · replace h := h.2 c45
      refine v_aload_n C dX0_tryPicture_48 rfl ?_
      refine v_iload_n C dX0_tryPicture_49 rfl ?_
      refine v_iload C dX0_tryPicture_50 rfl ?_
      refine v_aload_n C dX0_tryPicture_52 rfl ?_
      refine v_iload_n C dX0_tryPicture_53 rfl ?_
      refine v_iload C dX0_tryPicture_54 rfl ?_
      refine v_iload C dX0_tryPicture_56 rfl ?_
      refine v_iload_n C dX0_tryPicture_58 rfl ?_
      refine v_invV C ctX0_nextFree dX0_tryPicture_59 ivX0_71 ⟨by decide, by decide, rfl, rfl⟩ ((x3, x7, x4, x2) : Int × Int × Int × Int) (As := [.inl x3, .inl x7, .inl x4, .inl x2]) rfl rfl rfl (by decide) rfl (st := [.inl x4, .inl x3, .inr (21, 0)]) rfl (Nat.le_of_ble_eq_true rfl) h (fun o M59 oM59 io59 h => ?_)
      obtain ⟨r59, rfl, h⟩ := rI_out h
      refine v_push ?_
      refine v_aload_n C dX0_tryPicture_62 rfl ?_
      refine v_iload_n C dX0_tryPicture_63 rfl ?_
      refine v_iload C dX0_tryPicture_64 rfl ?_
      refine v_iload C dX0_tryPicture_66 rfl ?_
      refine v_invV C ctX6_gainOf dX0_tryPicture_68 ivX0_75 ⟨by decide, by decide, rfl, rfl⟩ ((i1, x3, x7, x4) : Int × Int × Int × Int) (As := [.inl x3, .inl x7, .inl x4]) rfl rfl rfl (by decide) rfl (st := [.inl r59, .inl x4, .inl x3, .inr (21, 0)]) rfl (Nat.le_of_ble_eq_true rfl) h (fun o M68 oM68 io68 h => ?_)
      obtain ⟨r68, rfl, h⟩ := rI_out h
      refine v_push ?_
      refine v_iload C dX0_tryPicture_71 rfl ?_
      refine v_invV C ctX0_raiseRow dX0_tryPicture_73 ivX0_78 ⟨by decide, by decide, rfl, rfl⟩ ((x3, x4, r59, r68, x6) : Int × Int × Int × Int × Int) (As := [.inl x3, .inl x4, .inl r59, .inl r68, .inl x6]) rfl rfl rfl (by decide) rfl (st := []) rfl (Nat.le_of_ble_eq_true rfl) h (fun o M73 oM73 io73 h => ?_)
      obtain ⟨rfl, h⟩ := rV_out h
      refine v_push0 ?_
      refine v_iinc C dX0_tryPicture_76 (by decide) rfl h.1 (lv' := [some (.inr (21, 0)), some (.inr (14, i1)), some (.inl x2), some (.inl x3), some (.inl x4), none, some (.inl x6), some (.inl (x7 + 1))]) rfl ?_
      replace h := h.2
      refine v_goto C dX0_tryPicture_79 (tgt := 19) (by decide) ?_
      refine v_weak [some (.inr (21, 0)), some (.inr (14, i1)), some (.inl x2), some (.inl x3), some (.inl x4), none, some (.inl x6), some (.inl (x7 + 1))] ⟨rfl, rfl, rfl, rfl, rfl, rfl, rfl, trivial⟩ ?_
      exact h
abbrev spX0_tryPicture (tr b p t A : Int) (M : Mem) (K : Kont) : Prop := (WFf (cFilm M 1) ∧ TrB M tr ∧ (0 ≤ p ∧ p < M 5 1 7) ∧ (0 ≤ t ∧ t < M 5 1 0) ∧ (0 ≤ b ∧ b ≤ 9) ∧ (0 ≤ A ∧ A < bShl 1 (M 5 1 7)) ∧ (cFilm M 1 12 p 0 = -4 ∨ bit A (cFilm M 1 12 p 0) = true) ∧
    (∀ u s : Int, t < u → u ≤ M 5 1 0 → 0 ≤ s → s < bShl 1 (M 5 1 7) → 0 ≤ M 22 0 (u * bShl 1 (M 5 1 7) + s) ∧ M 22 0 (u * bShl 1 (M 5 1 7) + s) ≤ 200000)) ∧
  ∀ M', AgB M M' → (∀ told, tcond (cFilm M 1) A p told → M' 22 0 (t * bShl 1 (M 5 1 7) + told) = tpF M (cFilm M 1) (M 16 tr) (M 17 tr) b (bShl 1 (M 5 1 7)) p t told (M 11 (7 * 1 + p) 4).toNat (M 22 0 (t * bShl 1 (M 5 1 7) + told))) →
    (∀ j, (∀ told, tcond (cFilm M 1) A p told → j ≠ t * bShl 1 (M 5 1 7) + told) → M' 22 0 j = M 22 0 j) → K none M'
theorem ctX0_tryPicture : CtX0_tryPicture spX0_tryPicture := by
  refine ct_of (by decide) dmC (fun _ => Nat.le_of_ble_eq_true rfl) ?_
  intro κ a M K C oM h
  obtain ⟨tr, b, p, t, A⟩ := a
  dsimp only [spX0_tryPicture] at h
  obtain ⟨⟨hf, hb, hp, ht, hbr, hA, hn, htb⟩, hk⟩ := h
  have hT := hf.1
  have hnP := hf.2.2.2.1
  have hwp := wf_p hf hp.1 hp.2
  have hnd := ndS_rng hf hp.1 hp.2
  simp only [cFilm] at hT hnP
  have hw := shl_le7 (k := M 5 1 7) (by omega) (by omega)
  have h11 : cFilm M 1 11 p 0 = M 11 (7 * 1 + p) 4 := rfl
  have h00 : cFilm M 1 0 0 0 = M 5 1 0 := rfl
  have hA' : A < bShl 1 (cFilm M 1 3 0 0) := hA.2
  have hr := rst_rng hf hA.1 (by omega) hp.1 hp.2
  have hown := shl_lt128 (p := p) hp.1 (by omega)
  -- all that can be told behind, and the picture itself, is a set of the film's pictures
  have hsum : ndS (cFilm M 1) p + bShl 1 p + rstS (cFilm M 1) A p < bShl 1 (M 5 1 7) := by
    have hs : (rstS (cFilm M 1) A p).toNat &&& (rstS (cFilm M 1) A p).toNat = (rstS (cFilm M 1) A p).toNat := Nat.and_self _
    have tc := tcond_of hf hA.1 hA' hp.1 hp.2 hn hs
    rw [oi_nat hr.1] at tc
    obtain ⟨t1, t2, t3, t4⟩ := tc
    have t1' : ndS (cFilm M 1) p + rstS (cFilm M 1) A p < bShl 1 (M 5 1 7) := t1.2
    have ha := add_bit (s := ndS (cFilm M 1) p + rstS (cFilm M 1) A p) (q := p) t1.1 (by omega) hp.1 (by omega) t3
    have h5 := or_rng7 (x := ndS (cFilm M 1) p + rstS (cFilm M 1) A p) (y := bShl 1 p) t1.1 (by omega) (by omega) hown.2
    have h6 : bOr (ndS (cFilm M 1) p + rstS (cFilm M 1) A p) (bShl 1 p) < bShl 1 (M 5 1 7) := by
      refine lt_bit h5.1 h5.2 (by omega) (by omega) (fun k k0 k1 => ?_)
      rw [bit_or2 t1.1 (by omega) (by omega) hown.2, bit_shl hp.1 (by omega) (by omega), bit_lt t1.1 (by omega) (by omega) t1' k0]
      have : ¬ k = p := by omega
      simp [this]
    omega
  generalize hW : bShl 1 (M 5 1 7) = w at *
  have m1 := mul_rng (a := t) (b := w) (A := 100) (B := 128) ht.1 (by omega) (by omega) hw.2
  have mono : ∀ u, t < u → u ≤ M 5 1 0 → t * w + w ≤ u * w ∧ u * w + w ≤ 12928 := by
    intro u a b
    have q1 : (t + 1) * w ≤ u * w := Int.mul_le_mul_of_nonneg_right (by omega) (by omega)
    have q2 : (u + 1) * w ≤ 101 * 128 := Int.mul_le_mul (by omega) hw.2 (by omega) (by omega)
    rw [Int.add_mul, Int.one_mul] at q1 q2
    omega
  have loop : ∀ (n : Nat) (v : Int) (N : Mem), 0 ≤ v → v + n = M 11 (7 * 1 + p) 4 → AgB M N → (∀ told, tcond (cFilm M 1) A p told → N 22 0 (t * w + told) = tpF M (cFilm M 1) (M 16 tr) (M 17 tr) b w p t told v.toNat (M 22 0 (t * w + told))) →
      (∀ j, (∀ told, tcond (cFilm M 1) A p told → j ≠ t * w + told) → N 22 0 j = M 22 0 j) →
      V κ 8 N 19 [some (.inr (21, 0)), some (.inr (14, tr)), some (.inl b), some (.inl p), some (.inl t), none, some (.inl (rstS (cFilm M 1) A p)), some (.inl v)] [] K := by
    intro n
    induction n with
    | zero =>
      intro v N h0 hn2 hAg h1 h2
      have e11 : N 11 = M 11 := hAg 11 (by decide)
      refine sgX0_tryPicture_19 C tr b p t _ v ⟨by omega, fun c => ?_, fun c => absurd (by rw [e11]; omega) c⟩
      have ev : v = M 11 (7 * 1 + p) 4 := by omega
      rw [ev] at h1
      exact hk N hAg h1 h2
    | succ n ih =>
      intro v N h0 hn2 hAg h1 h2
      have e11 : N 11 = M 11 := hAg 11 (by decide)
      have e5 : N 5 = M 5 := hAg 5 (by decide)
      have e16 : N 16 = M 16 := hAg 16 (by decide)
      have e17 : N 17 = M 17 := hAg 17 (by decide)
      have eF := hAg.film 1
      have hwv := wf_pv hf hp.1 hp.2 h0 (show v < M 11 (7 * 1 + p) 4 by omega)
      have hg := gain_rng hf hb hp.1 hp.2 h0 (show v < M 11 (7 * 1 + p) 4 by omega) ht.1 ht.2
      have vs : ∀ told x, tpF M (cFilm M 1) (M 16 tr) (M 17 tr) b w p t told (v + 1).toNat x = if ownW (cFilm M 1) (M 16 tr) p v t = 0 then max (tpF M (cFilm M 1) (M 16 tr) (M 17 tr) b w p t told v.toNat x) (gainW (cFilm M 1) (M 17 tr) p v t + M 22 0 (min (t + cFilm M 1 13 p v + b) (cFilm M 1 0 0 0) * w + told + bShl 1 p)) else tpF M (cFilm M 1) (M 16 tr) (M 17 tr) b w p t told v.toNat x := by
        intro told x
        rw [toNat_s h0]
        show (if ownW _ _ p (v.toNat : Int) t = 0 then max _ (gainW _ _ p (v.toNat : Int) t + M 22 0 (min (t + cFilm M 1 13 p (v.toNat : Int) + b) _ * w + told + bShl 1 p)) else _) = _
        rw [oi_nat h0]
      refine sgX0_tryPicture_19 C tr b p t _ v ⟨by omega, fun c => absurd c (by rw [e11]; omega), fun c => ⟨⟨by rw [eF]; exact hf, by rw [e5]; exact hp, by rw [e11]; omega, by rw [e5]; exact ht⟩, ?_, ?_⟩⟩
      · intro c2
        rw [eF, e16] at c2
        refine ⟨by omega, ih (v + 1) N (by omega) (by omega) hAg (fun told tc => ?_) h2⟩
        rw [vs, if_neg c2]
        exact h1 told tc
      · intro c2
        rw [eF, e16] at c2
        have c3 : ownW (cFilm M 1) (M 16 tr) p v t = 0 := by omega
        refine ⟨⟨by rw [eF]; exact hf, by rw [e5]; exact hp, by rw [e11]; omega, by rw [e5]; exact ht, hbr⟩, ⟨by rw [eF]; exact hf, fun u a b => by rw [e16, e17]; exact hb u a b, by rw [e5]; exact hp, by rw [e11]; omega, by rw [e5]; exact ht⟩, ?_⟩
        rw [eF, e17]
        generalize hnx : min (t + cFilm M 1 13 p v + b) (cFilm M 1 0 0 0) = nx at *
        have hnx2 : t < nx ∧ nx ≤ M 5 1 0 := by omega
        have mo := mono nx hnx2.1 hnx2.2
        have hun : ∀ s, 0 ≤ s → s < w → N 22 0 (nx * w + s) = M 22 0 (nx * w + s) := by
          intro s s0 s1
          refine h2 _ (fun told tc z => ?_)
          have q1 := tc.1
          have q2 : told < bShl 1 (M 5 1 7) := q1.2
          rw [hW] at q2
          omega
        have e57 : bShl 1 (N 5 1 7) = w := by rw [e5]; exact hW
        refine ⟨⟨by rw [eF]; exact hf, by rw [e5]; exact hp, by rw [e5]; omega, hg, ⟨hr.1, hr.2, by rw [eF, e57]; exact hsum⟩, fun s s0 s1 => ?_⟩, ?_⟩
        · rw [e57] at s1 ⊢
          rw [hun s s0 s1]
          exact htb nx s hnx2.1 hnx2.2 s0 s1
        · intro N2 hA2 g1 g2
          rw [eF, e57] at g1 g2
          refine ⟨by omega, ih (v + 1) N2 (by omega) (by omega) (hAg.tr hA2) (fun told tc => ?_) (fun j hj => ?_)⟩
          · obtain ⟨s, hs, es⟩ := tcond_s hf hA.1 hA' hp.1 hp.2 tc
            have := g1 s hs
            have a1 : t * w + ndS (cFilm M 1) p + (s : Int) = t * w + told := by omega
            have a2 : nx * w + ndS (cFilm M 1) p + bShl 1 p + (s : Int) = nx * w + (told + bShl 1 p) := by omega
            have hle := sub_le hs
            rw [a1, a2, hun _ (by omega) (by omega), h1 told tc] at this
            rw [this, vs, if_pos c3]
            have a3 : nx * w + told + bShl 1 p = nx * w + (told + bShl 1 p) := by omega
            rw [a3]
          · rw [g2 j (fun s hs z => ?_)]
            · exact h2 j hj
            · refine hj _ (tcond_of hf hA.1 hA' hp.1 hp.2 hn hs) ?_
              omega
  refine sgX0_tryPicture_0 C tr b p t A ⟨by omega, fun y ey => ?_⟩
  have ey' : y = rstS (cFilm M 1) A p := ey
  rw [ey']
  exact loop (M 11 (7 * 1 + p) 4).toNat 0 M (by omega) (by omega) AgB.rf (fun told tc => rfl) (fun j hj => rfl)
end
section
/-! ===== BestFinder.solve ===== -/
def SubA (F : Film) (set t told : Int) : Prop := (0 ≤ told ∧ told < bShl 1 (F 3 0 0)) ∧ ∀ k, 0 ≤ k → k < 7 → bit told k = true → (bit set k = true ∧ F 8 k 0 - F 9 k 0 < t)
theorem SubA.mono {F : Film} {set t u told : Int} (h : SubA F set t told) (hu : t ≤ u) : SubA F set u told := ⟨h.1, fun k a b c => ⟨(h.2 k a b c).1, by have := (h.2 k a b c).2; omega⟩⟩
theorem bV_id {F : Film} {S Q : Int → Int} {B : Int} {f : Int → Int → Int} {t set p : Int} : ∀ (n : Nat) (b : Int), (∀ v : Int, 0 ≤ v → v < n → ¬ begOk F S p v t set) → bV F S Q B f t set p n b = b := by
  intro n
  induction n with
  | zero => intro b _; rfl
  | succ n ih =>
    intro b h
    unfold bV
    rw [if_neg (h n (by omega) (by omega))]
    exact ih b (fun v a c => h v a (by omega))
theorem sub_or {F : Film} (hf : WFf F) {set t u told p : Int} (h : SubA F set t told) (hu : t < u) (hp : 0 ≤ p) (hp2 : p < F 3 0 0) (hb : bit set p = true) (hn : F 8 p 0 - F 9 p 0 ≤ t) : SubA F set u (bOr told (bShl 1 p)) := by
  have w := wf_p hf hp hp2
  have hn3 := hf.2.2.2.1
  have hw := shl_le7 (k := F 3 0 0) (by omega) (by omega)
  have ho := shl_lt128 (p := p) hp (by omega)
  obtain ⟨⟨a1, a2⟩, a3⟩ := h
  have hr := or_rng7 (x := told) (y := bShl 1 p) a1 (by omega) (by omega) ho.2
  refine ⟨⟨hr.1, lt_bit hr.1 hr.2 (by omega) (by omega) (fun k k0 k1 => ?_)⟩, fun k k0 k1 hk => ?_⟩
  · rw [bit_or2 a1 (by omega) (by omega) ho.2, bit_shl hp (by omega) (by omega), bit_lt a1 (by omega) (by omega) a2 k0]
    have : ¬ k = p := by omega
    simp [this]
  · rw [bit_or2 a1 (by omega) (by omega) ho.2, bit_shl hp (by omega) k0, Bool.or_eq_true, decide_eq_true_eq] at hk
    rcases hk with hk | hk
    · exact ⟨(a3 k k0 k1 hk).1, by have := (a3 k k0 k1 hk).2; omega⟩
    · rw [hk]
      exact ⟨hb, by omega⟩
theorem tp_bV {N : Mem} {F : Film} {S Q : Int → Int} {B w p t told x : Int} {f : Int → Int → Int} (h1 : bit told p = false) (h2 : F 12 p 0 = -4 ∨ bit told (F 12 p 0) = true) : ∀ n : Nat, (∀ v : Int, 0 ≤ v → v < n → ownW F S p v t = 0 → N 22 0 (min (t + F 13 p v + B) (F 0 0 0) * w + told + bShl 1 p) = f (min (t + F 13 p v + B) (F 0 0 0)) (bOr told (bShl 1 p))) →
    tpF N F S Q B w p t told n x = bV F S Q B f t told p n x := by
  intro n
  induction n with
  | zero => intro _; rfl
  | succ n ih =>
    intro h
    have h3 := ih (fun v a b c => h v a (by omega) c)
    unfold tpF bV
    by_cases c : ownW F S p n t = 0
    · rw [if_pos c, if_pos ⟨h1, h2, c⟩, h3, h n (by omega) (by omega) c]
      rfl
    · rw [if_neg c, if_neg (fun z => c z.2.2), h3]
/-! ===== GapTellings$BestFinder.solve ===== -/
abbrev rmX0_solve : Room := { frames := 3, cells := 0, slots := 0, locals := 81 }
abbrev argX0_solve (a : Int × Int × Int) : List PV := [.inr (21, 0), .inr (14, a.1), .inl a.2.1, .inl a.2.2]
abbrev CtX0_solve (sp : Int → Int → Int → Mem → Kont → Prop) : Prop := Ct yX0_solve cX0_solve 8 (some .int) rmX0_solve domC argX0_solve (fun a => sp a.1 a.2.1 a.2.2)
theorem dX0_solve_0 : decode cX0_solve 0 = .ok (.iconst 1, 1) := by decide +kernel
theorem dX0_solve_1 : decode cX0_solve 1 = .ok (.aload_n 0, 1) := by decide +kernel
theorem dX0_solve_2 : decode cX0_solve 2 = .ok (.getfield 15, 3) := by decide +kernel
theorem dX0_solve_5 : decode cX0_solve 5 = .ok (.getfield 19, 3) := by decide +kernel
theorem dX0_solve_8 : decode cX0_solve 8 = .ok (.ishl, 1) := by decide +kernel
theorem dX0_solve_9 : decode cX0_solve 9 = .ok (.istore 4, 2) := by decide +kernel
theorem dX0_solve_11 : decode cX0_solve 11 = .ok (.iconst 0, 1) := by decide +kernel
theorem dX0_solve_12 : decode cX0_solve 12 = .ok (.istore 5, 2) := by decide +kernel
theorem dX0_solve_14 : decode cX0_solve 14 = .ok (.iload 5, 2) := by decide +kernel
theorem dX0_solve_16 : decode cX0_solve 16 = .ok (.iload 4, 2) := by decide +kernel
theorem dX0_solve_18 : decode cX0_solve 18 = .ok (.if_icmp .ge 28, 3) := by decide +kernel
theorem dX0_solve_21 : decode cX0_solve 21 = .ok (.aload_n 0, 1) := by decide +kernel
theorem dX0_solve_22 : decode cX0_solve 22 = .ok (.getfield 9, 3) := by decide +kernel
theorem dX0_solve_25 : decode cX0_solve 25 = .ok (.aload_n 0, 1) := by decide +kernel
theorem dX0_solve_26 : decode cX0_solve 26 = .ok (.getfield 15, 3) := by decide +kernel
theorem dX0_solve_29 : decode cX0_solve 29 = .ok (.getfield 25, 3) := by decide +kernel
theorem dX0_solve_32 : decode cX0_solve 32 = .ok (.iload 4, 2) := by decide +kernel
theorem dX0_solve_34 : decode cX0_solve 34 = .ok (.imul, 1) := by decide +kernel
theorem dX0_solve_35 : decode cX0_solve 35 = .ok (.iload 5, 2) := by decide +kernel
theorem dX0_solve_37 : decode cX0_solve 37 = .ok (.iadd, 1) := by decide +kernel
theorem dX0_solve_38 : decode cX0_solve 38 = .ok (.iconst 0, 1) := by decide +kernel
theorem dX0_solve_39 : decode cX0_solve 39 = .ok (.iastore, 1) := by decide +kernel
theorem dX0_solve_40 : decode cX0_solve 40 = .ok (.iinc 5 1, 3) := by decide +kernel
theorem dX0_solve_43 : decode cX0_solve 43 = .ok (.goto (-29), 3) := by decide +kernel
theorem dX0_solve_46 : decode cX0_solve 46 = .ok (.aload_n 0, 1) := by decide +kernel
theorem dX0_solve_47 : decode cX0_solve 47 = .ok (.getfield 15, 3) := by decide +kernel
theorem dX0_solve_50 : decode cX0_solve 50 = .ok (.getfield 25, 3) := by decide +kernel
theorem dX0_solve_53 : decode cX0_solve 53 = .ok (.iconst 1, 1) := by decide +kernel
theorem dX0_solve_54 : decode cX0_solve 54 = .ok (.isub, 1) := by decide +kernel
theorem dX0_solve_55 : decode cX0_solve 55 = .ok (.istore 5, 2) := by decide +kernel
theorem dX0_solve_57 : decode cX0_solve 57 = .ok (.iload 5, 2) := by decide +kernel
theorem dX0_solve_59 : decode cX0_solve 59 = .ok (.ifCond .lt 117, 3) := by decide +kernel
theorem dX0_solve_62 : decode cX0_solve 62 = .ok (.aload_n 0, 1) := by decide +kernel
theorem dX0_solve_63 : decode cX0_solve 63 = .ok (.getfield 9, 3) := by decide +kernel
theorem dX0_solve_66 : decode cX0_solve 66 = .ok (.iload 5, 2) := by decide +kernel
theorem dX0_solve_68 : decode cX0_solve 68 = .ok (.iconst 1, 1) := by decide +kernel
theorem dX0_solve_69 : decode cX0_solve 69 = .ok (.iadd, 1) := by decide +kernel
theorem dX0_solve_70 : decode cX0_solve 70 = .ok (.iload 4, 2) := by decide +kernel
theorem dX0_solve_72 : decode cX0_solve 72 = .ok (.imul, 1) := by decide +kernel
theorem dX0_solve_73 : decode cX0_solve 73 = .ok (.aload_n 0, 1) := by decide +kernel
theorem dX0_solve_74 : decode cX0_solve 74 = .ok (.getfield 9, 3) := by decide +kernel
theorem dX0_solve_77 : decode cX0_solve 77 = .ok (.iload 5, 2) := by decide +kernel
theorem dX0_solve_79 : decode cX0_solve 79 = .ok (.iload 4, 2) := by decide +kernel
theorem dX0_solve_81 : decode cX0_solve 81 = .ok (.imul, 1) := by decide +kernel
theorem dX0_solve_82 : decode cX0_solve 82 = .ok (.iload 4, 2) := by decide +kernel
theorem dX0_solve_84 : decode cX0_solve 84 = .ok (.invokestatic 28, 3) := by decide +kernel
theorem dX0_solve_87 : decode cX0_solve 87 = .ok (.aload_n 0, 1) := by decide +kernel
theorem dX0_solve_88 : decode cX0_solve 88 = .ok (.iload_n 3, 1) := by decide +kernel
theorem dX0_solve_89 : decode cX0_solve 89 = .ok (.iload 5, 2) := by decide +kernel
theorem dX0_solve_91 : decode cX0_solve 91 = .ok (.invokevirtual 34, 3) := by decide +kernel
theorem dX0_solve_94 : decode cX0_solve 94 = .ok (.istore 6, 2) := by decide +kernel
theorem dX0_solve_96 : decode cX0_solve 96 = .ok (.iconst 0, 1) := by decide +kernel
theorem dX0_solve_97 : decode cX0_solve 97 = .ok (.istore 7, 2) := by decide +kernel
theorem dX0_solve_99 : decode cX0_solve 99 = .ok (.iload 7, 2) := by decide +kernel
theorem dX0_solve_101 : decode cX0_solve 101 = .ok (.aload_n 0, 1) := by decide +kernel
theorem dX0_solve_102 : decode cX0_solve 102 = .ok (.getfield 15, 3) := by decide +kernel
theorem dX0_solve_105 : decode cX0_solve 105 = .ok (.getfield 19, 3) := by decide +kernel
theorem dX0_solve_108 : decode cX0_solve 108 = .ok (.if_icmp .ge 62, 3) := by decide +kernel
theorem dX0_solve_111 : decode cX0_solve 111 = .ok (.iload_n 3, 1) := by decide +kernel
theorem dX0_solve_112 : decode cX0_solve 112 = .ok (.iconst 1, 1) := by decide +kernel
theorem dX0_solve_113 : decode cX0_solve 113 = .ok (.iload 7, 2) := by decide +kernel
theorem dX0_solve_115 : decode cX0_solve 115 = .ok (.ishl, 1) := by decide +kernel
theorem dX0_solve_116 : decode cX0_solve 116 = .ok (.iand, 1) := by decide +kernel
theorem dX0_solve_117 : decode cX0_solve 117 = .ok (.ifCond .eq 47, 3) := by decide +kernel
theorem dX0_solve_120 : decode cX0_solve 120 = .ok (.aload_n 0, 1) := by decide +kernel
theorem dX0_solve_121 : decode cX0_solve 121 = .ok (.getfield 15, 3) := by decide +kernel
theorem dX0_solve_124 : decode cX0_solve 124 = .ok (.getfield 38, 3) := by decide +kernel
theorem dX0_solve_127 : decode cX0_solve 127 = .ok (.iload 7, 2) := by decide +kernel
theorem dX0_solve_129 : decode cX0_solve 129 = .ok (.aaload, 1) := by decide +kernel
theorem dX0_solve_130 : decode cX0_solve 130 = .ok (.iload 5, 2) := by decide +kernel
theorem dX0_solve_132 : decode cX0_solve 132 = .ok (.invokevirtual 42, 3) := by decide +kernel
theorem dX0_solve_135 : decode cX0_solve 135 = .ok (.ifCond .eq 29, 3) := by decide +kernel
theorem dX0_solve_138 : decode cX0_solve 138 = .ok (.aload_n 0, 1) := by decide +kernel
theorem dX0_solve_139 : decode cX0_solve 139 = .ok (.iload 7, 2) := by decide +kernel
theorem dX0_solve_141 : decode cX0_solve 141 = .ok (.invokevirtual 48, 3) := by decide +kernel
theorem dX0_solve_144 : decode cX0_solve 144 = .ok (.iload 6, 2) := by decide +kernel
theorem dX0_solve_146 : decode cX0_solve 146 = .ok (.iconst (-1), 1) := by decide +kernel
theorem dX0_solve_147 : decode cX0_solve 147 = .ok (.ixor, 1) := by decide +kernel
theorem dX0_solve_148 : decode cX0_solve 148 = .ok (.iand, 1) := by decide +kernel
theorem dX0_solve_149 : decode cX0_solve 149 = .ok (.ifCond .ne 15, 3) := by decide +kernel
theorem dX0_solve_152 : decode cX0_solve 152 = .ok (.aload_n 0, 1) := by decide +kernel
theorem dX0_solve_153 : decode cX0_solve 153 = .ok (.aload_n 1, 1) := by decide +kernel
theorem dX0_solve_154 : decode cX0_solve 154 = .ok (.iload_n 2, 1) := by decide +kernel
theorem dX0_solve_155 : decode cX0_solve 155 = .ok (.iload 7, 2) := by decide +kernel
theorem dX0_solve_157 : decode cX0_solve 157 = .ok (.iload 5, 2) := by decide +kernel
theorem dX0_solve_159 : decode cX0_solve 159 = .ok (.iload 6, 2) := by decide +kernel
theorem dX0_solve_161 : decode cX0_solve 161 = .ok (.invokevirtual 52, 3) := by decide +kernel
theorem dX0_solve_164 : decode cX0_solve 164 = .ok (.iinc 7 1, 3) := by decide +kernel
theorem dX0_solve_167 : decode cX0_solve 167 = .ok (.goto (-68), 3) := by decide +kernel
theorem dX0_solve_170 : decode cX0_solve 170 = .ok (.iinc 5 (-1), 3) := by decide +kernel
theorem dX0_solve_173 : decode cX0_solve 173 = .ok (.goto (-116), 3) := by decide +kernel
theorem dX0_solve_176 : decode cX0_solve 176 = .ok (.aload_n 0, 1) := by decide +kernel
theorem dX0_solve_177 : decode cX0_solve 177 = .ok (.getfield 9, 3) := by decide +kernel
theorem dX0_solve_180 : decode cX0_solve 180 = .ok (.iconst 0, 1) := by decide +kernel
theorem dX0_solve_181 : decode cX0_solve 181 = .ok (.iaload, 1) := by decide +kernel
theorem dX0_solve_182 : decode cX0_solve 182 = .ok (.ireturn, 1) := by decide +kernel
theorem ivX0_28 : ICp RX0 28 := ⟨(tb_mem (t_in3 (List.mem_of_getElem? (i := 168) (by decide +kernel))) (by decide +kernel)), (tb_mem (t_in3 (List.mem_of_getElem? (i := 170) (by decide +kernel))) (by decide +kernel)), (tb_mem (t_in3 (List.mem_of_getElem? (i := 169) (by decide +kernel))) (by decide +kernel)), (tb_mem (t_in1 (List.mem_of_getElem? (i := 17) (by decide +kernel))) (by decide +kernel))⟩
theorem ivX0_34 : IV RX0 34 yX0_openAhead cX0_openAhead 5 (some .int) 2 := ⟨(tb_mem (t_in3 (List.mem_of_getElem? (i := 171) (by decide +kernel))) (by decide +kernel)), (tb_mem (t_in3 (List.mem_of_getElem? (i := 172) (by decide +kernel))) (by decide +kernel)), (tb_mem (t_in3 (List.mem_of_getElem? (i := 173) (by decide +kernel))) (by decide +kernel)), (tb_mem (t_in1 (List.mem_of_getElem? (i := 8) (by decide +kernel))) (by decide +kernel)), (tb_mem (t_in3 (List.mem_of_getElem? (i := 174) (by decide +kernel))) (by decide +kernel)), ⟨by decide +kernel, by decide +kernel, by decide +kernel⟩⟩
theorem ivX0_42 : IV RX0 42 yX3_isNear cX3_isNear 2 (some .boolean) 1 := ⟨(tb_mem (t_in3 (List.mem_of_getElem? (i := 175) (by decide +kernel))) (by decide +kernel)), (tb_mem (t_in3 (List.mem_of_getElem? (i := 66) (by decide +kernel))) (by decide +kernel)), (tb_mem (t_in3 (List.mem_of_getElem? (i := 67) (by decide +kernel))) (by decide +kernel)), (tb_mem (t_in1 (List.mem_of_getElem? (i := 4) (by decide +kernel))) (by decide +kernel)), (tb_mem (t_in3 (List.mem_of_getElem? (i := 68) (by decide +kernel))) (by decide +kernel)), ⟨by decide +kernel, by decide +kernel, by decide +kernel⟩⟩
theorem ivX0_52 : IV RX0 52 yX0_tryPicture cX0_tryPicture 8 none 5 := ⟨(tb_mem (t_in3 (List.mem_of_getElem? (i := 180) (by decide +kernel))) (by decide +kernel)), (tb_mem (t_in3 (List.mem_of_getElem? (i := 181) (by decide +kernel))) (by decide +kernel)), (tb_mem (t_in3 (List.mem_of_getElem? (i := 182) (by decide +kernel))) (by decide +kernel)), (tb_mem (t_in1 (List.mem_of_getElem? (i := 8) (by decide +kernel))) (by decide +kernel)), (tb_mem (t_in3 (List.mem_of_getElem? (i := 183) (by decide +kernel))) (by decide +kernel)), ⟨by decide +kernel, by decide +kernel, by decide +kernel⟩⟩
set_option maxHeartbeats 4000000 in
set_option maxRecDepth 20000 in
theorem sgX0_solve_0 {κ : Kx} {K : Kont} {M : Mem} (C : Cx κ RX0 cX0_solve 8 (some .int) rmX0_solve domC) (i1 : Int) (x2 : Int) (x3 : Int)
    (h :
    ∀ y4_9 : Int, y4_9 = bShl 1 (M 5 1 7) →
    V κ 8 M 14 [some (.inr (21, 0)), some (.inr (14, i1)), some (.inl x2), some (.inl x3), some (.inl y4_9), some (.inl 0), none, none] [] K) : V κ 8 M 0 [some (.inr (21, 0)), some (.inr (14, i1)), some (.inl x2), some (.inl x3), none, none, none, none] [] K := by
  refine v_iconst C dX0_solve_0 (by decide) ?_
  refine v_aload_n C dX0_solve_1 rfl ?_
  refine v_get C dX0_solve_2 flX0_15 rfl (by decide) (by decide) (w := .inr (5, 1)) rfl ?_
  refine v_get C dX0_solve_5 flX0_19 rfl (by decide) (by decide) (w := .inl (M 5 1 7)) rfl ?_
  refine v_ishl C dX0_solve_8 ?_
  refine v_nm (fun y4_9 ey4_9 => ?_)
  replace h := h y4_9 ey4_9
  refine v_istore C dX0_solve_9 (by decide) (Nat.le_of_ble_eq_true rfl) (lv' := [some (.inr (21, 0)), some (.inr (14, i1)), some (.inl x2), some (.inl x3), some (.inl y4_9), none, none, none]) rfl ?_
  refine v_iconst C dX0_solve_11 (by decide) ?_
  refine v_istore C dX0_solve_12 (by decide) (Nat.le_of_ble_eq_true rfl) (lv' := [some (.inr (21, 0)), some (.inr (14, i1)), some (.inl x2), some (.inl x3), some (.inl y4_9), some (.inl 0), none, none]) rfl ?_
  refine v_weak [some (.inr (21, 0)), some (.inr (14, i1)), some (.inl x2), some (.inl x3), some (.inl y4_9), some (.inl 0), none, none] ⟨rfl, rfl, rfl, rfl, rfl, rfl, trivial⟩ ?_
  exact h
set_option maxHeartbeats 4000000 in
set_option maxRecDepth 20000 in
theorem sgX0_solve_14 {κ : Kx} {K : Kont} {M : Mem} (C : Cx κ RX0 cX0_solve 8 (some .int) rmX0_solve domC) (i1 : Int) (x2 : Int) (x3 : Int) (x4 : Int) (x5 : Int)
    (h :
    ((x4 ≤ x5 →
      inR ((M 5 1 0) - 1) ∧
      ∀ y5_55 : Int, y5_55 = (M 5 1 0) - 1 →
      V κ 8 M 57 [some (.inr (21, 0)), some (.inr (14, i1)), some (.inl x2), some (.inl x3), some (.inl x4), some (.inl y5_55), none, none] [] K) ∧
     (¬ (x4 ≤ x5) →
      inR ((M 5 1 0) * x4) ∧
      inR (((M 5 1 0) * x4) + x5) ∧
      (0 ≤ (((M 5 1 0) * x4) + x5) ∧ (((M 5 1 0) * x4) + x5) < 12928) ∧
      ∀ M39 : Mem, M39 = up3 M 22 0 (((M 5 1 0) * x4) + x5) 0 →
      inR (x5 + 1) ∧
      V κ 8 M39 14 [some (.inr (21, 0)), some (.inr (14, i1)), some (.inl x2), some (.inl x3), some (.inl x4), some (.inl (x5 + 1)), none, none] [] K))) : V κ 8 M 14 [some (.inr (21, 0)), some (.inr (14, i1)), some (.inl x2), some (.inl x3), some (.inl x4), some (.inl x5), none, none] [] K := by
  refine v_iload C dX0_solve_14 rfl ?_
  refine v_iload C dX0_solve_16 rfl ?_
  refine v_icmp C dX0_solve_18 (tgt := 46) (by decide) (P := x4 ≤ x5) rfl (fun c18 => ?_) (fun c18 => ?_)
  · replace h := h.1 c18
    refine v_aload_n C dX0_solve_46 rfl ?_
    refine v_get C dX0_solve_47 flX0_15 rfl (by decide) (by decide) (w := .inr (5, 1)) rfl ?_
    refine v_get C dX0_solve_50 flX0_25 rfl (by decide) (by decide) (w := .inl (M 5 1 0)) rfl ?_
    refine v_iconst C dX0_solve_53 (by decide) ?_
    refine v_isub C dX0_solve_54 h.1 ?_
    replace h := h.2
    refine v_nm (fun y5_55 ey5_55 => ?_)
    replace h := h y5_55 ey5_55
    refine v_istore C dX0_solve_55 (by decide) (Nat.le_of_ble_eq_true rfl) (lv' := [some (.inr (21, 0)), some (.inr (14, i1)), some (.inl x2), some (.inl x3), some (.inl x4), some (.inl y5_55), none, none]) rfl ?_
    refine v_weak [some (.inr (21, 0)), some (.inr (14, i1)), some (.inl x2), some (.inl x3), some (.inl x4), some (.inl y5_55), none, none] ⟨rfl, rfl, rfl, rfl, rfl, rfl, trivial⟩ ?_
    exact h
  · replace h := h.2 c18
    refine v_aload_n C dX0_solve_21 rfl ?_
    refine v_get C dX0_solve_22 flX0_9 rfl (by decide) (by decide) (w := .inr (22, 0)) rfl ?_
    refine v_aload_n C dX0_solve_25 rfl ?_
    refine v_get C dX0_solve_26 flX0_15 rfl (by decide) (by decide) (w := .inr (5, 1)) rfl ?_
    refine v_get C dX0_solve_29 flX0_25 rfl (by decide) (by decide) (w := .inl (M 5 1 0)) rfl ?_
    refine v_iload C dX0_solve_32 rfl ?_
    refine v_imul C dX0_solve_34 h.1 ?_
    replace h := h.2
    refine v_iload C dX0_solve_35 rfl ?_
    refine v_iadd C dX0_solve_37 h.1 ?_
    replace h := h.2
    refine v_iconst C dX0_solve_38 (by decide) ?_
    refine v_iast C dX0_solve_39 rfl h.1.1 h.1.2 ?_
    replace h := h.2
    refine v_nmM (fun M39 eM39 => ?_)
    replace h := h M39 eM39
    refine v_iinc C dX0_solve_40 (by decide) rfl h.1 (lv' := [some (.inr (21, 0)), some (.inr (14, i1)), some (.inl x2), some (.inl x3), some (.inl x4), some (.inl (x5 + 1)), none, none]) rfl ?_
    replace h := h.2
    refine v_goto C dX0_solve_43 (tgt := 14) (by decide) ?_
    refine v_weak [some (.inr (21, 0)), some (.inr (14, i1)), some (.inl x2), some (.inl x3), some (.inl x4), some (.inl (x5 + 1)), none, none] ⟨rfl, rfl, rfl, rfl, rfl, rfl, trivial⟩ ?_
    exact h
set_option maxHeartbeats 4000000 in
set_option maxRecDepth 20000 in
theorem sgX0_solve_57 {κ : Kx} {K : Kont} {M : Mem} (C : Cx κ RX0 cX0_solve 8 (some .int) rmX0_solve domC) (i1 : Int) (x2 : Int) (x3 : Int) (x4 : Int) (x5 : Int)
    (h :
    ((x5 < 0 →
      K (some (M 22 0 0)) M) ∧
     (¬ (x5 < 0) →
      inR (x5 + 1) ∧
      inR ((x5 + 1) * x4) ∧
      inR (x5 * x4) ∧
      (0 ≤ ((x5 + 1) * x4) ∧ 0 ≤ (x5 * x4) ∧ 0 ≤ x4 ∧ ((x5 + 1) * x4) + x4 ≤ 12928 ∧ (x5 * x4) + x4 ≤ 12928) ∧
      ∀ M84 : Mem, M84 = cpyM M 22 0 ((x5 + 1) * x4) 22 0 (x5 * x4) x4 →
      spX0_openAhead x3 x5 M84 (rI (fun r91 M91 =>
      V κ 8 M91 99 [some (.inr (21, 0)), some (.inr (14, i1)), some (.inl x2), some (.inl x3), some (.inl x4), some (.inl x5), some (.inl r91), some (.inl 0)] [] K))))) : V κ 8 M 57 [some (.inr (21, 0)), some (.inr (14, i1)), some (.inl x2), some (.inl x3), some (.inl x4), some (.inl x5), none, none] [] K := by
  refine v_iload C dX0_solve_57 rfl ?_
  refine v_if C dX0_solve_59 (tgt := 176) (by decide) (P := x5 < 0) rfl (fun c59 => ?_) (fun c59 => ?_)
  · replace h := h.1 c59
    refine v_aload_n C dX0_solve_176 rfl ?_
    refine v_get C dX0_solve_177 flX0_9 rfl (by decide) (by decide) (w := .inr (22, 0)) rfl ?_
    refine v_iconst C dX0_solve_180 (by decide) ?_
    refine v_iald C dX0_solve_181 rfl (by decide) (by decide) ?_
    exact v_iret C dX0_solve_182 h
  · replace h := h.2 c59
    refine v_aload_n C dX0_solve_62 rfl ?_
    refine v_get C dX0_solve_63 flX0_9 rfl (by decide) (by decide) (w := .inr (22, 0)) rfl ?_
    refine v_iload C dX0_solve_66 rfl ?_
    refine v_iconst C dX0_solve_68 (by decide) ?_
    refine v_iadd C dX0_solve_69 h.1 ?_
    replace h := h.2
    refine v_iload C dX0_solve_70 rfl ?_
    refine v_imul C dX0_solve_72 h.1 ?_
    replace h := h.2
    refine v_aload_n C dX0_solve_73 rfl ?_
    refine v_get C dX0_solve_74 flX0_9 rfl (by decide) (by decide) (w := .inr (22, 0)) rfl ?_
    refine v_iload C dX0_solve_77 rfl ?_
    refine v_iload C dX0_solve_79 rfl ?_
    refine v_imul C dX0_solve_81 h.1 ?_
    replace h := h.2
    refine v_iload C dX0_solve_82 rfl ?_
    refine v_copy C dX0_solve_84 ivX0_28 rfl rfl h.1.1 h.1.2.1 h.1.2.2.1 h.1.2.2.2.1 h.1.2.2.2.2 (Nat.le_of_ble_eq_true rfl) ⟨by decide, by decide⟩ ?_
    replace h := h.2
    refine v_nmM (fun M84 eM84 => ?_)
    replace h := h M84 eM84
    refine v_aload_n C dX0_solve_87 rfl ?_
    refine v_iload_n C dX0_solve_88 rfl ?_
    refine v_iload C dX0_solve_89 rfl ?_
    refine v_invV C ctX0_openAhead dX0_solve_91 ivX0_34 ⟨by decide, by decide, rfl, rfl⟩ ((x3, x5) : Int × Int) (As := [.inl x3, .inl x5]) rfl rfl rfl (by decide) rfl (st := []) rfl (Nat.le_of_ble_eq_true rfl) h (fun o M91 oM91 io91 h => ?_)
    obtain ⟨r91, rfl, h⟩ := rI_out h
    refine v_push ?_
    refine v_istore C dX0_solve_94 (by decide) (Nat.le_of_ble_eq_true rfl) (lv' := [some (.inr (21, 0)), some (.inr (14, i1)), some (.inl x2), some (.inl x3), some (.inl x4), some (.inl x5), some (.inl r91), none]) rfl ?_
    refine v_iconst C dX0_solve_96 (by decide) ?_
    refine v_istore C dX0_solve_97 (by decide) (Nat.le_of_ble_eq_true rfl) (lv' := [some (.inr (21, 0)), some (.inr (14, i1)), some (.inl x2), some (.inl x3), some (.inl x4), some (.inl x5), some (.inl r91), some (.inl 0)]) rfl ?_
    refine v_weak [some (.inr (21, 0)), some (.inr (14, i1)), some (.inl x2), some (.inl x3), some (.inl x4), some (.inl x5), some (.inl r91), some (.inl 0)] ⟨rfl, rfl, rfl, rfl, rfl, rfl, rfl, rfl, trivial⟩ ?_
    exact h
set_option maxHeartbeats 4000000 in
set_option maxRecDepth 20000 in
theorem sgX0_solve_99 {κ : Kx} {K : Kont} {M : Mem} (C : Cx κ RX0 cX0_solve 8 (some .int) rmX0_solve domC) (i1 : Int) (x2 : Int) (x3 : Int) (x4 : Int) (x5 : Int) (x6 : Int) (x7 : Int)
    (h :
    (((M 5 1 7) ≤ x7 →
      inR (x5 + (-1)) ∧
      V κ 8 M 57 [some (.inr (21, 0)), some (.inr (14, i1)), some (.inl x2), some (.inl x3), some (.inl x4), some (.inl (x5 + (-1))), none, none] [] K) ∧
     (¬ ((M 5 1 7) ≤ x7) →
      (((bAnd x3 (bShl 1 x7)) = 0 →
        inR (x7 + 1) ∧
        V κ 8 M 99 [some (.inr (21, 0)), some (.inr (14, i1)), some (.inl x2), some (.inl x3), some (.inl x4), some (.inl x5), some (.inl x6), some (.inl (x7 + 1))] [] K) ∧
       (¬ ((bAnd x3 (bShl 1 x7)) = 0) →
        (0 ≤ x7 ∧ x7 < 7) ∧
        spX3_isNear (7 * 1 + x7) x5 M (rI (fun r132 M132 =>
        ((r132 = 0 →
          inR (x7 + 1) ∧
          V κ 8 M132 99 [some (.inr (21, 0)), some (.inr (14, i1)), some (.inl x2), some (.inl x3), some (.inl x4), some (.inl x5), some (.inl x6), some (.inl (x7 + 1))] [] K) ∧
         (¬ (r132 = 0) →
          spX0_neededSet x7 M132 (rI (fun r141 M141 =>
          (((bAnd r141 (bXor x6 (-1))) ≠ 0 →
            inR (x7 + 1) ∧
            V κ 8 M141 99 [some (.inr (21, 0)), some (.inr (14, i1)), some (.inl x2), some (.inl x3), some (.inl x4), some (.inl x5), some (.inl x6), some (.inl (x7 + 1))] [] K) ∧
           (¬ ((bAnd r141 (bXor x6 (-1))) ≠ 0) →
            spX0_tryPicture i1 x2 x7 x5 x6 M141 (rV (fun M161 =>
            inR (x7 + 1) ∧
            V κ 8 M161 99 [some (.inr (21, 0)), some (.inr (14, i1)), some (.inl x2), some (.inl x3), some (.inl x4), some (.inl x5), some (.inl x6), some (.inl (x7 + 1))] [] K))))))))))))))) : V κ 8 M 99 [some (.inr (21, 0)), some (.inr (14, i1)), some (.inl x2), some (.inl x3), some (.inl x4), some (.inl x5), some (.inl x6), some (.inl x7)] [] K := by
  refine v_iload C dX0_solve_99 rfl ?_
  refine v_aload_n C dX0_solve_101 rfl ?_
  refine v_get C dX0_solve_102 flX0_15 rfl (by decide) (by decide) (w := .inr (5, 1)) rfl ?_
  refine v_get C dX0_solve_105 flX0_19 rfl (by decide) (by decide) (w := .inl (M 5 1 7)) rfl ?_
  refine v_icmp C dX0_solve_108 (tgt := 170) (by decide) (P := (M 5 1 7) ≤ x7) rfl (fun c108 => ?_) (fun c108 => ?_)
  · replace h := h.1 c108
    refine v_iinc C dX0_solve_170 (by decide) rfl h.1 (lv' := [some (.inr (21, 0)), some (.inr (14, i1)), some (.inl x2), some (.inl x3), some (.inl x4), some (.inl (x5 + (-1))), some (.inl x6), some (.inl x7)]) rfl ?_
    replace h := h.2
    refine v_goto C dX0_solve_173 (tgt := 57) (by decide) ?_
    refine v_weak [some (.inr (21, 0)), some (.inr (14, i1)), some (.inl x2), some (.inl x3), some (.inl x4), some (.inl (x5 + (-1))), none, none] ⟨rfl, rfl, rfl, rfl, rfl, rfl, trivial⟩ ?_
    exact h
  · replace h := h.2 c108
    refine v_iload_n C dX0_solve_111 rfl ?_
    refine v_iconst C dX0_solve_112 (by decide) ?_
    refine v_iload C dX0_solve_113 rfl ?_
    refine v_ishl C dX0_solve_115 ?_
    refine v_iand C dX0_solve_116 ?_
    refine v_if C dX0_solve_117 (tgt := 164) (by decide) (P := (bAnd x3 (bShl 1 x7)) = 0) rfl (fun c117 => ?_) (fun c117 => ?_)
    · replace h := h.1 c117
      refine v_iinc C dX0_solve_164 (by decide) rfl h.1 (lv' := [some (.inr (21, 0)), some (.inr (14, i1)), some (.inl x2), some (.inl x3), some (.inl x4), some (.inl x5), some (.inl x6), some (.inl (x7 + 1))]) rfl ?_
      replace h := h.2
      refine v_goto C dX0_solve_167 (tgt := 99) (by decide) ?_
      refine v_weak [some (.inr (21, 0)), some (.inr (14, i1)), some (.inl x2), some (.inl x3), some (.inl x4), some (.inl x5), some (.inl x6), some (.inl (x7 + 1))] ⟨rfl, rfl, rfl, rfl, rfl, rfl, rfl, rfl, trivial⟩ ?_
      exact h
    · replace h := h.2 c117
      refine v_aload_n C dX0_solve_120 rfl ?_
      refine v_get C dX0_solve_121 flX0_15 rfl (by decide) (by decide) (w := .inr (5, 1)) rfl ?_
      refine v_get C dX0_solve_124 flX0_38 rfl (by decide) (by decide) (w := .inr (10, 1)) rfl ?_
      refine v_iload C dX0_solve_127 rfl ?_
      refine v_aald C dX0_solve_129 h.1.1 h.1.2 ?_
      replace h := h.2
      refine v_iload C dX0_solve_130 rfl ?_
      refine v_invV C ctX3_isNear dX0_solve_132 ivX0_42 ⟨by decide, by decide, rfl, rfl⟩ ((7 * 1 + x7, x5) : Int × Int) (As := [.inl x5]) rfl rfl rfl (by decide) rfl (st := []) rfl (Nat.le_of_ble_eq_true rfl) h (fun o M132 oM132 io132 h => ?_)
      obtain ⟨r132, rfl, h⟩ := rI_out h
      refine v_push ?_
      refine v_if C dX0_solve_135 (tgt := 164) (by decide) (P := r132 = 0) rfl (fun c135 => ?_) (fun c135 => ?_)
      · replace h := h.1 c135
        refine v_iinc C dX0_solve_164 (by decide) rfl h.1 (lv' := [some (.inr (21, 0)), some (.inr (14, i1)), some (.inl x2), some (.inl x3), some (.inl x4), some (.inl x5), some (.inl x6), some (.inl (x7 + 1))]) rfl ?_
        replace h := h.2
        refine v_goto C dX0_solve_167 (tgt := 99) (by decide) ?_
        refine v_weak [some (.inr (21, 0)), some (.inr (14, i1)), some (.inl x2), some (.inl x3), some (.inl x4), some (.inl x5), some (.inl x6), some (.inl (x7 + 1))] ⟨rfl, rfl, rfl, rfl, rfl, rfl, rfl, rfl, trivial⟩ ?_
        exact h
      · replace h := h.2 c135
        refine v_aload_n C dX0_solve_138 rfl ?_
        refine v_iload C dX0_solve_139 rfl ?_
        refine v_invV C ctX0_neededSet dX0_solve_141 ivX0_48 ⟨by decide, by decide, rfl, rfl⟩ (x7 : Int) (As := [.inl x7]) rfl rfl rfl (by decide) rfl (st := []) rfl (Nat.le_of_ble_eq_true rfl) h (fun o M141 oM141 io141 h => ?_)
        obtain ⟨r141, rfl, h⟩ := rI_out h
        refine v_push ?_
        refine v_iload C dX0_solve_144 rfl ?_
        refine v_iconst C dX0_solve_146 (by decide) ?_
        refine v_ixor C dX0_solve_147 ?_
        refine v_iand C dX0_solve_148 ?_
        refine v_if C dX0_solve_149 (tgt := 164) (by decide) (P := (bAnd r141 (bXor x6 (-1))) ≠ 0) rfl (fun c149 => ?_) (fun c149 => ?_)
        · replace h := h.1 c149
          refine v_iinc C dX0_solve_164 (by decide) rfl h.1 (lv' := [some (.inr (21, 0)), some (.inr (14, i1)), some (.inl x2), some (.inl x3), some (.inl x4), some (.inl x5), some (.inl x6), some (.inl (x7 + 1))]) rfl ?_
          replace h := h.2
          refine v_goto C dX0_solve_167 (tgt := 99) (by decide) ?_
          refine v_weak [some (.inr (21, 0)), some (.inr (14, i1)), some (.inl x2), some (.inl x3), some (.inl x4), some (.inl x5), some (.inl x6), some (.inl (x7 + 1))] ⟨rfl, rfl, rfl, rfl, rfl, rfl, rfl, rfl, trivial⟩ ?_
          exact h
        · replace h := h.2 c149
          refine v_aload_n C dX0_solve_152 rfl ?_
          refine v_aload_n C dX0_solve_153 rfl ?_
          refine v_iload_n C dX0_solve_154 rfl ?_
          refine v_iload C dX0_solve_155 rfl ?_
          refine v_iload C dX0_solve_157 rfl ?_
          refine v_iload C dX0_solve_159 rfl ?_
          refine v_invV C ctX0_tryPicture dX0_solve_161 ivX0_52 ⟨by decide, by decide, rfl, rfl⟩ ((i1, x2, x7, x5, x6) : Int × Int × Int × Int × Int) (As := [.inr (14, i1), .inl x2, .inl x7, .inl x5, .inl x6]) rfl rfl rfl (by decide) rfl (st := []) rfl (Nat.le_of_ble_eq_true rfl) h (fun o M161 oM161 io161 h => ?_)
          obtain ⟨rfl, h⟩ := rV_out h
          refine v_push0 ?_
          refine v_iinc C dX0_solve_164 (by decide) rfl h.1 (lv' := [some (.inr (21, 0)), some (.inr (14, i1)), some (.inl x2), some (.inl x3), some (.inl x4), some (.inl x5), some (.inl x6), some (.inl (x7 + 1))]) rfl ?_
          replace h := h.2
          refine v_goto C dX0_solve_167 (tgt := 99) (by decide) ?_
          refine v_weak [some (.inr (21, 0)), some (.inr (14, i1)), some (.inl x2), some (.inl x3), some (.inl x4), some (.inl x5), some (.inl x6), some (.inl (x7 + 1))] ⟨rfl, rfl, rfl, rfl, rfl, rfl, rfl, rfl, trivial⟩ ?_
          exact h
abbrev spX0_solve (tr b set : Int) (M : Mem) (K : Kont) : Prop := (WFf (cFilm M 1) ∧ TrB M tr ∧ (0 ≤ b ∧ b ≤ 9) ∧ (0 ≤ set ∧ set < bShl 1 (M 5 1 7))) ∧
  ∀ M', AgB M M' → (∀ t told, 0 ≤ t → t ≤ M 5 1 0 → SubA (cFilm M 1) set t told → M' 22 0 (t * bShl 1 (M 5 1 7) + told) = tabR (cFilm M 1) (M 16 tr) (M 17 tr) b set (M 5 1 0).toNat t told) → K (some (tabR (cFilm M 1) (M 16 tr) (M 17 tr) b set (M 5 1 0).toNat 0 0)) M'
theorem ctX0_solve : CtX0_solve spX0_solve := by
  refine ct_of (by decide) dmC (fun _ => Nat.le_of_ble_eq_true rfl) ?_
  intro κ a M K C oM h
  obtain ⟨tr, b, set⟩ := a
  dsimp only [spX0_solve] at h
  obtain ⟨⟨hf, hb, hbr, hset⟩, hk⟩ := h
  have hT := hf.1
  have hnP := hf.2.2.2.1
  simp only [cFilm] at hT hnP
  have hw := shl_le7 (k := M 5 1 7) (by omega) (by omega)
  generalize hF : cFilm M 1 = F at *
  have f0 : F 0 0 0 = M 5 1 0 := by rw [← hF]; rfl
  have f3 : F 3 0 0 = M 5 1 7 := by rw [← hF]; rfl
  have hQB : QB (M 17 tr) := fun t a b => (hb t a b).2
  generalize hW : bShl 1 (M 5 1 7) = w at *
  have hW3 : bShl 1 (F 3 0 0) = w := by rw [f3]; exact hW
  have mul : ∀ u, 0 ≤ u → u ≤ M 5 1 0 → 0 ≤ u * w ∧ u * w + w ≤ 12928 := by
    intro u a c
    have q1 := mul_rng (a := u) (b := w) (A := 100) (B := 128) a (by omega) (by omega) hw.2
    have q2 : (u + 1) * w ≤ 101 * 128 := Int.mul_le_mul (by omega) hw.2 (by omega) (by omega)
    rw [Int.add_mul, Int.one_mul] at q2
    omega
  have sep : ∀ u t, u < t → u * w + w ≤ t * w := by
    intro u t h
    have q1 : (u + 1) * w ≤ t * w := Int.mul_le_mul_of_nonneg_right (by omega) (by omega)
    rw [Int.add_mul, Int.one_mul] at q1
    exact q1
  -- rows from t on stand
  let Rows : Mem → Int → Prop := fun N t => ∀ u told, t ≤ u → u ≤ M 5 1 0 → 0 ≤ told → told < w → (0 ≤ N 22 0 (u * w + told) ∧ N 22 0 (u * w + told) ≤ 2000 * (M 5 1 0 - u)) ∧
      (SubA F set u told → N 22 0 (u * w + told) = tabR F (M 16 tr) (M 17 tr) b set (M 5 1 0).toNat u told)
  have down : ∀ (n : Nat) (t : Int) (N : Mem), t + 1 = n → t < M 5 1 0 → AgB M N → Rows N (t + 1) →
      V κ 8 N 57 [some (.inr (21, 0)), some (.inr (14, tr)), some (.inl b), some (.inl set), some (.inl w), some (.inl t), none, none] [] K := by
    intro n
    induction n with
    | zero =>
      intro t N hn ht hA hR
      refine sgX0_solve_57 C tr b set w t ⟨fun c => ?_, fun c => absurd (by omega) c⟩
      have et : t + 1 = 0 := by omega
      rw [et] at hR
      have z := (hR 0 0 (by omega) (by omega) (by omega) (by omega)).2 ⟨⟨by omega, by rw [hW3]; omega⟩, fun k _ _ hk => by rw [bit_0] at hk; cases hk⟩
      rw [Int.zero_mul, Int.zero_add] at z
      rw [z]
      refine hk N hA (fun u told a c d => ?_)
      have d1 := d.1
      rw [hW3] at d1
      exact (hR u told a c d1.1 d1.2).2 d
    | succ n ih =>
      intro t N hn ht hA hR
      have e5 : N 5 = M 5 := hA 5 (by decide)
      have t0 : 0 ≤ t := by omega
      have mt := mul t t0 (by omega)
      have mt1 := mul (t + 1) (by omega) (by omega)
      have e1w : (t + 1) * w = t * w + w := by rw [Int.add_mul, Int.one_mul]
      refine sgX0_solve_57 C tr b set w t ⟨fun c => absurd c (by omega), fun c => ⟨by omega, by omega, by omega, ⟨by omega, by omega, by omega, by omega, by omega⟩, fun N1 eN1 => ?_⟩⟩
      have hA1 : AgB M N1 := by
        refine hA.tr (fun r hr => ?_)
        rw [eN1]
        funext i j
        unfold cpyM
        rw [if_neg (fun z => hr z.1)]
      have row1 : ∀ told, 0 ≤ told → told < w → N1 22 0 (t * w + told) = N 22 0 ((t + 1) * w + told) := by
        intro told a c
        rw [eN1]
        unfold cpyM
        rw [if_pos ⟨rfl, rfl, by omega, by omega⟩]
        congr 1
        omega
      have oth1 : ∀ u told, t < u → 0 ≤ told → N1 22 0 (u * w + told) = N 22 0 (u * w + told) := by
        intro u told a c
        rw [eN1]
        unfold cpyM
        have := sep t u a
        rw [if_neg (fun z => by have := z.2.2.2; omega)]
      have eF1 : cFilm N1 1 = F := by rw [hA1.film 1]; exact hF
      have hnn : t = F 0 0 0 - ((M 5 1 0 - t - 1).toNat + 1 : Nat) := by omega
      let f := tabR F (M 16 tr) (M 17 tr) b set (M 5 1 0 - t - 1).toNat
      have frow : ∀ u told, t < u → u ≤ M 5 1 0 → tabR F (M 16 tr) (M 17 tr) b set (M 5 1 0).toNat u told = f u told := fun u told a c => tab_keep F _ _ _ _ _ _ u told (by omega) (by omega)
      have trow : ∀ told, tabR F (M 16 tr) (M 17 tr) b set (M 5 1 0).toNat t told = bP F (M 16 tr) (M 17 tr) b f t told set (F 3 0 0).toNat := by
        intro told
        rw [tab_keep F _ _ _ _ (M 5 1 0).toNat ((M 5 1 0 - t - 1).toNat + 1) t told (by omega) (by omega)]
        show (if t = F 0 0 0 - (((M 5 1 0 - t - 1).toNat : Int) + 1) then _ else _) = _
        rw [if_pos (by omega)]
      have frng : ∀ u s, t < u → u ≤ F 0 0 0 → 0 ≤ f u s ∧ f u s ≤ 2000 * (F 0 0 0 - (t + 1)) := by
        intro u s a c
        have := tab_rng (S := M 16 tr) (may := set) hf hQB hbr.1 (M 5 1 0 - t - 1).toNat u s (by omega) (by omega) c
        show 0 ≤ f u s ∧ _
        have e9 : f u s = tabR F (M 16 tr) (M 17 tr) b set (M 5 1 0 - t - 1).toNat u s := rfl
        rw [e9]
        omega
      refine ⟨⟨by rw [eF1]; exact hf, hset.1, by omega⟩, ?_⟩
      intro A hAh
      rw [eF1] at hAh
      -- the pictures, one by one
      have pics : ∀ (m : Nat) (p : Int) (N2 : Mem), 0 ≤ p → p + m = M 5 1 7 → AgB M N2 → Rows N2 (t + 1) → (∀ told, 0 ≤ told → told < w → 0 ≤ N2 22 0 (t * w + told) ∧ N2 22 0 (t * w + told) ≤ 2000 * (M 5 1 0 - t)) →
          (∀ told, SubA F set t told → N2 22 0 (t * w + told) = bP F (M 16 tr) (M 17 tr) b f t told set p.toNat) →
          V κ 8 N2 99 [some (.inr (21, 0)), some (.inr (14, tr)), some (.inl b), some (.inl set), some (.inl w), some (.inl t), some (.inl A), some (.inl p)] [] K := by
        intro m
        induction m with
        | zero =>
          intro p N2 p0 pn hA2 hR2 hbd hrow
          have q5 : N2 5 = M 5 := hA2 5 (by decide)
          refine sgX0_solve_99 C tr b set w t A p ⟨fun c => ⟨by omega, ?_⟩, fun c => absurd (by rw [q5]; omega) c⟩
          refine ih (t + (-1)) N2 (by omega) (by omega) hA2 ?_
          intro u told a c d e
          by_cases hu : u = t
          · rw [hu]
            refine ⟨hbd told d e, fun hs => ?_⟩
            rw [hrow told hs, trow told]
            have : p = F 3 0 0 := by omega
            rw [this]
          · exact hR2 u told (by omega) c d e
        | succ m ih2 =>
          intro p N2 p0 pn hA2 hR2 hbd hrow
          have q5 : N2 5 = M 5 := hA2 5 (by decide)
          have q11 : N2 11 = M 11 := hA2 11 (by decide)
          have q16 : N2 16 = M 16 := hA2 16 (by decide)
          have q17 : N2 17 = M 17 := hA2 17 (by decide)
          have eF2 : cFilm N2 1 = F := by rw [hA2.film 1]; exact hF
          have wp := wf_p hf p0 (show p < F 3 0 0 by omega)
          have ps : ∀ told, bP F (M 16 tr) (M 17 tr) b f t told set (p + 1).toNat = if bit set p then bV F (M 16 tr) (M 17 tr) b f t told p (F 11 p 0).toNat (bP F (M 16 tr) (M 17 tr) b f t told set p.toNat) else bP F (M 16 tr) (M 17 tr) b f t told set p.toNat := by
            intro told
            rw [toNat_s p0]
            show (if bit set (p.toNat : Int) then bV F _ _ b f t told (p.toNat : Int) (F 11 (p.toNat : Int) 0).toNat _ else _) = _
            rw [oi_nat p0]
          have skip : (∀ told, SubA F set t told → bP F (M 16 tr) (M 17 tr) b f t told set (p + 1).toNat = bP F (M 16 tr) (M 17 tr) b f t told set p.toNat) → inR (p + 1) ∧ V κ 8 N2 99 [some (.inr (21, 0)), some (.inr (14, tr)), some (.inl b), some (.inl set), some (.inl w), some (.inl t), some (.inl A), some (.inl (p + 1))] [] K := by
            intro hs
            exact ⟨by omega, ih2 (p + 1) N2 (by omega) (by omega) hA2 hR2 hbd (fun told h => by rw [hs told h]; exact hrow told h)⟩
          have e8 : N2 11 (7 * 1 + p) 0 = F 8 p 0 := by rw [q11, ← hF]; rfl
          have e9 : N2 11 (7 * 1 + p) 1 = F 9 p 0 := by rw [q11, ← hF]; rfl
          have e10 : N2 11 (7 * 1 + p) 2 = F 10 p 0 := by rw [q11, ← hF]; rfl
          have hab := and_bit (x := set) (k := p) hset.1 (by omega) p0 (by omega)
          refine sgX0_solve_99 C tr b set w t A p ⟨fun c => absurd c (by rw [q5]; omega), fun c => ⟨fun c2 => ?_, fun c2 => ⟨by omega, ⟨by rw [e8, e9, e10]; omega, ?_⟩⟩⟩⟩
          · refine skip (fun told hs => ?_)
            rw [ps, hab.mp c2]
            rfl
          · have hbp : bit set p = true := by
              cases z : bit set p
              · exact absurd (hab.mpr z) c2
              · rfl
            have psT : ∀ told, bP F (M 16 tr) (M 17 tr) b f t told set (p + 1).toNat = bV F (M 16 tr) (M 17 tr) b f t told p (F 11 p 0).toNat (bP F (M 16 tr) (M 17 tr) b f t told set p.toNat) := fun told => by rw [ps, hbp]; rfl
            show ((if t < N2 11 (7 * 1 + p) 0 - N2 11 (7 * 1 + p) 1 ∨ N2 11 (7 * 1 + p) 0 + N2 11 (7 * 1 + p) 2 < t then (0 : Int) else 1) = 0 → _) ∧ (¬ (if t < N2 11 (7 * 1 + p) 0 - N2 11 (7 * 1 + p) 1 ∨ N2 11 (7 * 1 + p) 0 + N2 11 (7 * 1 + p) 2 < t then (0 : Int) else 1) = 0 → _)
            rw [e8, e9, e10]
            refine ⟨fun c3 => ?_, fun c3 => ⟨⟨p0, by omega⟩, ?_⟩⟩
            · have c4 := if01 c3
              refine skip (fun told hs => ?_)
              rw [psT]
              refine bV_id _ _ (fun v a d z => ?_)
              have := own_end z.2.2
              omega
            · have c4 := if01n c3
              rw [eF2]
              have hndr := ndS_rng hf p0 (show p < F 3 0 0 by omega)
              have hA128 : 0 ≤ A ∧ A < 128 := by have := hAh.1; omega
              have hnb := bit_not (a := ndS F p) (x := A) (k := F 12 p 0) hndr.1 (by omega) hA128.1 hA128.2
              refine ⟨fun c5 => ?_, fun c5 => ?_⟩
              · -- what it needs is not among those
                have hneed : F 12 p 0 ≠ -4 ∧ bit A (F 12 p 0) = false := by
                  by_cases z : F 12 p 0 = -4
                  · have : ndS F p = 0 := by unfold ndS; rw [if_pos z]
                    rw [this] at c5
                    exact absurd (by rw [and_not (by decide) (by decide) hA128.1 hA128.2]; simp) c5
                  · refine ⟨z, ?_⟩
                    cases y : bit A (F 12 p 0)
                    · rfl
                    · exfalso
                      apply c5
                      have hr9 := not_rng (a := ndS F p) (x := A) hndr.1 (by omega) hA128.1 hA128.2
                      refine bit_ext hr9.1 hr9.2 (by decide) (by decide) (fun k k0 k1 => ?_)
                      rw [bit_not hndr.1 (by omega) hA128.1 hA128.2, bit_0, nd_bit hf p0 (by omega) k0]
                      by_cases q : k = F 12 p 0
                      · rw [q, y]; simp
                      · simp [q]
                refine skip (fun told hs => ?_)
                rw [psT]
                refine bV_id _ _ (fun v a d z => ?_)
                rcases z.2.1 with y | y
                · exact hneed.1 y
                · have hs2 := hs.2 (F 12 p 0) (by omega) (by omega) y
                  have := (hAh.2 (F 12 p 0) (by omega) (by omega)).mpr ⟨hs2.1, by omega, hs2.2⟩
                  rw [hneed.2] at this
                  cases this
              · have hneed : F 12 p 0 = -4 ∨ bit A (F 12 p 0) = true := by
                  by_cases z : F 12 p 0 = -4
                  · exact Or.inl z
                  · right
                    cases y : bit A (F 12 p 0)
                    · exfalso
                      have c6 : bAnd (ndS F p) (bXor A (-1)) = 0 := by omega
                      rw [c6, bit_0, nd_bit hf p0 (by omega) (by omega), y] at hnb
                      simp [z] at hnb
                    · rfl
                have hAw : A < w := by have := hAh.1; omega
                have e57 : bShl 1 (N2 5 1 7) = w := by rw [q5]; exact hW
                refine ⟨⟨by rw [eF2]; exact hf, fun u a d => by rw [q16, q17]; exact hb u a d, by rw [q5]; omega, by rw [q5]; omega, hbr, by rw [e57]; omega, by rw [eF2]; exact hneed, ?_⟩, ?_⟩
                · intro u s a d e g
                  rw [q5] at d
                  rw [e57] at g ⊢
                  have := (hR2 u s (by omega) d e g).1
                  omega
                · intro N3 hA3 g1 g2
                  rw [eF2, q16, q17, e57] at g1
                  rw [eF2, e57] at g2
                  have e4 : N2 11 (7 * 1 + p) 4 = F 11 p 0 := by rw [q11, ← hF]; rfl
                  rw [e4] at g1
                  have subOf : ∀ told, tcond F A p told → SubA F set t told := by
                    intro told tc
                    refine ⟨tc.1, fun k k0 k1 hk => ?_⟩
                    have := (hAh.2 k k0 k1).mp (tc.2.1 k k0 k1 hk)
                    exact ⟨this.1, this.2.2⟩
                  have keep : ∀ u told, t < u → 0 ≤ told → N3 22 0 (u * w + told) = N2 22 0 (u * w + told) := by
                    intro u told a d
                    refine g2 _ (fun td tc z => ?_)
                    have := tc.1.2
                    rw [hW3] at this
                    have := sep t u a
                    omega
                  have newrow : ∀ told, SubA F set t told → N3 22 0 (t * w + told) = bP F (M 16 tr) (M 17 tr) b f t told set (p + 1).toNat := by
                    intro told hs
                    rw [psT]
                    by_cases tc : tcond F A p told
                    · rw [g1 told tc, hrow told hs]
                      refine tp_bV tc.2.2.1 tc.2.2.2 _ (fun v a d e => ?_)
                      have wv := wf_pv hf p0 (show p < F 3 0 0 by omega) a (by omega)
                      have oe := own_end e
                      have hnx : t < min (t + F 13 p v + b) (F 0 0 0) := by omega
                      have hnx2 : min (t + F 13 p v + b) (F 0 0 0) ≤ M 5 1 0 := by omega
                      generalize min (t + F 13 p v + b) (F 0 0 0) = nx at *
                      have so := sub_or hf hs hnx p0 (by omega) hbp (by omega)
                      have s1 := so.1
                      rw [hW3] at s1
                      have had := add_bit (s := told) (q := p) tc.1.1 (by have := tc.1.2; rw [hW3] at this; omega) p0 (by omega) tc.2.2.1
                      have e77 : nx * w + told + bShl 1 p = nx * w + bOr told (bShl 1 p) := by omega
                      rw [e77, (hR2 nx _ (by omega) hnx2 s1.1 s1.2).2 so, frow nx _ hnx hnx2]
                    · have s1 := hs.1
                      rw [hW3] at s1
                      rw [g2 _ (fun td tc2 z => ?_), hrow told hs]
                      · symm
                        refine bV_id _ _ (fun v a d z => tc ?_)
                        refine ⟨hs.1, fun k k0 k1 hk => ?_, z.1, z.2.1⟩
                        have h9 := hs.2 k k0 k1 hk
                        refine (hAh.2 k k0 k1).mpr ⟨h9.1, ?_, h9.2⟩
                        rcases Int.lt_or_le k (F 3 0 0) with q | q
                        · exact q
                        · rw [bit_lt hs.1.1 (by omega) (by omega) hs.1.2 q] at hk
                          cases hk
                      · have : td = told := by omega
                        rw [this] at tc2
                        exact tc tc2
                  refine ⟨by omega, ih2 (p + 1) N3 (by omega) (by omega) (hA2.tr hA3) ?_ ?_ newrow⟩
                  · intro u told a d e g
                    rw [keep u told (by omega) e]
                    exact hR2 u told a d e g
                  · intro told d e
                    by_cases hs : SubA F set t told
                    · rw [newrow told hs]
                      have := bP_rng (S := M 16 tr) (set := told) (may := set) hf hQB hbr.1 (t := t) (f := f) (U := 2000 * (F 0 0 0 - (t + 1))) (by omega) t0 (by omega) frng (p + 1).toNat (by omega)
                      omega
                    · rw [g2 _ (fun td tc z => ?_)]
                      · exact hbd told d e
                      · have : td = told := by omega
                        rw [this] at tc
                        exact hs (subOf told tc)
      refine pics (M 5 1 7).toNat 0 N1 (by omega) (by omega) hA1 ?_ ?_ ?_
      · intro u told a c d e
        rw [oth1 u told (by omega) d]
        exact hR u told a c d e
      · intro told a c
        rw [row1 told a c]
        have := (hR (t + 1) told (by omega) (by omega) a c).1
        omega
      · intro told hs
        have s1 := hs.1
        rw [hW3] at s1
        rw [row1 told s1.1 s1.2, (hR (t + 1) told (by omega) (by omega) s1.1 s1.2).2 (hs.mono (by omega)), frow (t + 1) told (by omega) (by omega)]
        rfl
  -- the last row
  have zero : ∀ (m : Nat) (s : Int) (N : Mem), 0 ≤ s → s + m = w → AgB M N → (∀ k, 0 ≤ k → k < s → N 22 0 (M 5 1 0 * w + k) = 0) →
      V κ 8 N 14 [some (.inr (21, 0)), some (.inr (14, tr)), some (.inl b), some (.inl set), some (.inl w), some (.inl s), none, none] [] K := by
    have mT := mul (M 5 1 0) (by omega) (by omega)
    intro m
    induction m with
    | zero =>
      intro s N s0 sn hA hz
      have e5 : N 5 = M 5 := hA 5 (by decide)
      refine sgX0_solve_14 C tr b set w s ⟨fun c => ⟨by rw [e5]; omega, fun y ey => ?_⟩, fun c => absurd (by omega) c⟩
      rw [e5] at ey
      refine down (y + 1).toNat y N (by omega) (by omega) hA ?_
      intro u told a c d e
      have eu : u = M 5 1 0 := by omega
      rw [eu, hz told d (by omega)]
      refine ⟨by omega, fun hs => ?_⟩
      rw [tab_keep F _ _ _ _ (M 5 1 0).toNat 0 _ told (by omega) (by omega)]
      rfl
    | succ m ih =>
      intro s N s0 sn hA hz
      have e5 : N 5 = M 5 := hA 5 (by decide)
      refine sgX0_solve_14 C tr b set w s ⟨fun c => absurd c (by omega), fun c => ?_⟩
      rw [e5]
      refine ⟨by omega, by omega, by omega, fun N2 eN2 => ⟨by omega, ih (s + 1) N2 (by omega) (by omega) (by rw [eN2]; exact hA.tr (AgB.up _ _ _)) (fun k k0 k1 => ?_)⟩⟩
      rw [eN2]
      by_cases e : k = s
      · rw [e, up3_s]
      · rw [up3_j _ _ _ _ _ (by omega)]
        exact hz k k0 (by omega)
  refine sgX0_solve_0 C tr b set (fun y ey => ?_)
  rw [hW] at ey
  rw [ey]
  exact zero w.toNat 0 M (by omega) (by omega) AgB.rf (fun k a c => by omega)
end
section
/-! ===== BestFinder.putFirst, trace ===== -/
/-! ===== GapTellings$BestFinder.putFirst ===== -/
abbrev rmX0_putFirst : Room := { frames := 2, cells := 0, slots := 0, locals := 48 }
abbrev argX0_putFirst (a : Int × Int × Int × Int × Int) : List PV := [.inr (21, 0), .inr (14, a.1), .inl a.2.1, .inr (18, a.2.2.1), .inl a.2.2.2.1, .inl a.2.2.2.2]
abbrev CtX0_putFirst (sp : Int → Int → Int → Int → Int → Mem → Kont → Prop) : Prop := Ct yX0_putFirst cX0_putFirst 12 (some .int) rmX0_putFirst domC argX0_putFirst (fun a => sp a.1 a.2.1 a.2.2.1 a.2.2.2.1 a.2.2.2.2)
theorem dX0_putFirst_0 : decode cX0_putFirst 0 = .ok (.iconst 1, 1) := by decide +kernel
theorem dX0_putFirst_1 : decode cX0_putFirst 1 = .ok (.aload_n 0, 1) := by decide +kernel
theorem dX0_putFirst_2 : decode cX0_putFirst 2 = .ok (.getfield 15, 3) := by decide +kernel
theorem dX0_putFirst_5 : decode cX0_putFirst 5 = .ok (.getfield 19, 3) := by decide +kernel
theorem dX0_putFirst_8 : decode cX0_putFirst 8 = .ok (.ishl, 1) := by decide +kernel
theorem dX0_putFirst_9 : decode cX0_putFirst 9 = .ok (.istore 6, 2) := by decide +kernel
theorem dX0_putFirst_11 : decode cX0_putFirst 11 = .ok (.aload_n 0, 1) := by decide +kernel
theorem dX0_putFirst_12 : decode cX0_putFirst 12 = .ok (.getfield 9, 3) := by decide +kernel
theorem dX0_putFirst_15 : decode cX0_putFirst 15 = .ok (.iload 5, 2) := by decide +kernel
theorem dX0_putFirst_17 : decode cX0_putFirst 17 = .ok (.iload 6, 2) := by decide +kernel
theorem dX0_putFirst_19 : decode cX0_putFirst 19 = .ok (.imul, 1) := by decide +kernel
theorem dX0_putFirst_20 : decode cX0_putFirst 20 = .ok (.iload 4, 2) := by decide +kernel
theorem dX0_putFirst_22 : decode cX0_putFirst 22 = .ok (.iadd, 1) := by decide +kernel
theorem dX0_putFirst_23 : decode cX0_putFirst 23 = .ok (.iaload, 1) := by decide +kernel
theorem dX0_putFirst_24 : decode cX0_putFirst 24 = .ok (.istore 7, 2) := by decide +kernel
theorem dX0_putFirst_26 : decode cX0_putFirst 26 = .ok (.iconst 0, 1) := by decide +kernel
theorem dX0_putFirst_27 : decode cX0_putFirst 27 = .ok (.istore 8, 2) := by decide +kernel
theorem dX0_putFirst_29 : decode cX0_putFirst 29 = .ok (.iload 8, 2) := by decide +kernel
theorem dX0_putFirst_31 : decode cX0_putFirst 31 = .ok (.aload_n 0, 1) := by decide +kernel
theorem dX0_putFirst_32 : decode cX0_putFirst 32 = .ok (.getfield 15, 3) := by decide +kernel
theorem dX0_putFirst_35 : decode cX0_putFirst 35 = .ok (.getfield 19, 3) := by decide +kernel
theorem dX0_putFirst_38 : decode cX0_putFirst 38 = .ok (.if_icmp .ge 133, 3) := by decide +kernel
theorem dX0_putFirst_41 : decode cX0_putFirst 41 = .ok (.iconst 1, 1) := by decide +kernel
theorem dX0_putFirst_42 : decode cX0_putFirst 42 = .ok (.iload 8, 2) := by decide +kernel
theorem dX0_putFirst_44 : decode cX0_putFirst 44 = .ok (.ishl, 1) := by decide +kernel
theorem dX0_putFirst_45 : decode cX0_putFirst 45 = .ok (.istore 9, 2) := by decide +kernel
theorem dX0_putFirst_47 : decode cX0_putFirst 47 = .ok (.aload_n 0, 1) := by decide +kernel
theorem dX0_putFirst_48 : decode cX0_putFirst 48 = .ok (.iload 8, 2) := by decide +kernel
theorem dX0_putFirst_50 : decode cX0_putFirst 50 = .ok (.invokevirtual 48, 3) := by decide +kernel
theorem dX0_putFirst_53 : decode cX0_putFirst 53 = .ok (.istore 10, 2) := by decide +kernel
theorem dX0_putFirst_55 : decode cX0_putFirst 55 = .ok (.iload 4, 2) := by decide +kernel
theorem dX0_putFirst_57 : decode cX0_putFirst 57 = .ok (.iload 9, 2) := by decide +kernel
theorem dX0_putFirst_59 : decode cX0_putFirst 59 = .ok (.iload 10, 2) := by decide +kernel
theorem dX0_putFirst_61 : decode cX0_putFirst 61 = .ok (.ior, 1) := by decide +kernel
theorem dX0_putFirst_62 : decode cX0_putFirst 62 = .ok (.iand, 1) := by decide +kernel
theorem dX0_putFirst_63 : decode cX0_putFirst 63 = .ok (.iload 10, 2) := by decide +kernel
theorem dX0_putFirst_65 : decode cX0_putFirst 65 = .ok (.if_icmp .eq 6, 3) := by decide +kernel
theorem dX0_putFirst_68 : decode cX0_putFirst 68 = .ok (.goto 97, 3) := by decide +kernel
theorem dX0_putFirst_71 : decode cX0_putFirst 71 = .ok (.iconst 0, 1) := by decide +kernel
theorem dX0_putFirst_72 : decode cX0_putFirst 72 = .ok (.istore 11, 2) := by decide +kernel
theorem dX0_putFirst_74 : decode cX0_putFirst 74 = .ok (.iload 11, 2) := by decide +kernel
theorem dX0_putFirst_76 : decode cX0_putFirst 76 = .ok (.aload_n 0, 1) := by decide +kernel
theorem dX0_putFirst_77 : decode cX0_putFirst 77 = .ok (.getfield 15, 3) := by decide +kernel
theorem dX0_putFirst_80 : decode cX0_putFirst 80 = .ok (.getfield 38, 3) := by decide +kernel
theorem dX0_putFirst_83 : decode cX0_putFirst 83 = .ok (.iload 8, 2) := by decide +kernel
theorem dX0_putFirst_85 : decode cX0_putFirst 85 = .ok (.aaload, 1) := by decide +kernel
theorem dX0_putFirst_86 : decode cX0_putFirst 86 = .ok (.getfield 62, 3) := by decide +kernel
theorem dX0_putFirst_89 : decode cX0_putFirst 89 = .ok (.if_icmp .ge 76, 3) := by decide +kernel
theorem dX0_putFirst_92 : decode cX0_putFirst 92 = .ok (.aload_n 1, 1) := by decide +kernel
theorem dX0_putFirst_93 : decode cX0_putFirst 93 = .ok (.iload 8, 2) := by decide +kernel
theorem dX0_putFirst_95 : decode cX0_putFirst 95 = .ok (.iload 11, 2) := by decide +kernel
theorem dX0_putFirst_97 : decode cX0_putFirst 97 = .ok (.iload 5, 2) := by decide +kernel
theorem dX0_putFirst_99 : decode cX0_putFirst 99 = .ok (.invokevirtual 65, 3) := by decide +kernel
theorem dX0_putFirst_102 : decode cX0_putFirst 102 = .ok (.ifCond .ne 57, 3) := by decide +kernel
theorem dX0_putFirst_105 : decode cX0_putFirst 105 = .ok (.aload_n 1, 1) := by decide +kernel
theorem dX0_putFirst_106 : decode cX0_putFirst 106 = .ok (.iload 8, 2) := by decide +kernel
theorem dX0_putFirst_108 : decode cX0_putFirst 108 = .ok (.iload 11, 2) := by decide +kernel
theorem dX0_putFirst_110 : decode cX0_putFirst 110 = .ok (.iload 5, 2) := by decide +kernel
theorem dX0_putFirst_112 : decode cX0_putFirst 112 = .ok (.invokevirtual 75, 3) := by decide +kernel
theorem dX0_putFirst_115 : decode cX0_putFirst 115 = .ok (.aload_n 0, 1) := by decide +kernel
theorem dX0_putFirst_116 : decode cX0_putFirst 116 = .ok (.getfield 9, 3) := by decide +kernel
theorem dX0_putFirst_119 : decode cX0_putFirst 119 = .ok (.aload_n 0, 1) := by decide +kernel
theorem dX0_putFirst_120 : decode cX0_putFirst 120 = .ok (.iload 8, 2) := by decide +kernel
theorem dX0_putFirst_122 : decode cX0_putFirst 122 = .ok (.iload 11, 2) := by decide +kernel
theorem dX0_putFirst_124 : decode cX0_putFirst 124 = .ok (.iload 5, 2) := by decide +kernel
theorem dX0_putFirst_126 : decode cX0_putFirst 126 = .ok (.iload_n 2, 1) := by decide +kernel
theorem dX0_putFirst_127 : decode cX0_putFirst 127 = .ok (.invokevirtual 71, 3) := by decide +kernel
theorem dX0_putFirst_130 : decode cX0_putFirst 130 = .ok (.iload 6, 2) := by decide +kernel
theorem dX0_putFirst_132 : decode cX0_putFirst 132 = .ok (.imul, 1) := by decide +kernel
theorem dX0_putFirst_133 : decode cX0_putFirst 133 = .ok (.iload 4, 2) := by decide +kernel
theorem dX0_putFirst_135 : decode cX0_putFirst 135 = .ok (.iadd, 1) := by decide +kernel
theorem dX0_putFirst_136 : decode cX0_putFirst 136 = .ok (.iload 9, 2) := by decide +kernel
theorem dX0_putFirst_138 : decode cX0_putFirst 138 = .ok (.iadd, 1) := by decide +kernel
theorem dX0_putFirst_139 : decode cX0_putFirst 139 = .ok (.iaload, 1) := by decide +kernel
theorem dX0_putFirst_140 : decode cX0_putFirst 140 = .ok (.iadd, 1) := by decide +kernel
theorem dX0_putFirst_141 : decode cX0_putFirst 141 = .ok (.iload 7, 2) := by decide +kernel
theorem dX0_putFirst_143 : decode cX0_putFirst 143 = .ok (.if_icmp .ne 16, 3) := by decide +kernel
theorem dX0_putFirst_146 : decode cX0_putFirst 146 = .ok (.aload_n 3, 1) := by decide +kernel
theorem dX0_putFirst_147 : decode cX0_putFirst 147 = .ok (.iload 8, 2) := by decide +kernel
theorem dX0_putFirst_149 : decode cX0_putFirst 149 = .ok (.iload 11, 2) := by decide +kernel
theorem dX0_putFirst_151 : decode cX0_putFirst 151 = .ok (.iload 5, 2) := by decide +kernel
theorem dX0_putFirst_153 : decode cX0_putFirst 153 = .ok (.invokevirtual 110, 3) := by decide +kernel
theorem dX0_putFirst_156 : decode cX0_putFirst 156 = .ok (.iload 8, 2) := by decide +kernel
theorem dX0_putFirst_158 : decode cX0_putFirst 158 = .ok (.ireturn, 1) := by decide +kernel
theorem dX0_putFirst_159 : decode cX0_putFirst 159 = .ok (.iinc 11 1, 3) := by decide +kernel
theorem dX0_putFirst_162 : decode cX0_putFirst 162 = .ok (.goto (-88), 3) := by decide +kernel
theorem dX0_putFirst_165 : decode cX0_putFirst 165 = .ok (.iinc 8 1, 3) := by decide +kernel
theorem dX0_putFirst_168 : decode cX0_putFirst 168 = .ok (.goto (-139), 3) := by decide +kernel
theorem dX0_putFirst_171 : decode cX0_putFirst 171 = .ok (.bipush (-4), 2) := by decide +kernel
theorem dX0_putFirst_173 : decode cX0_putFirst 173 = .ok (.ireturn, 1) := by decide +kernel
theorem ivX0_110 : IV RX0 110 yX4_put cX4_put 4 none 3 := ⟨(tb_mem (t_in3 (List.mem_of_getElem? (i := 210) (by decide +kernel))) (by decide +kernel)), (tb_mem (t_in3 (List.mem_of_getElem? (i := 116) (by decide +kernel))) (by decide +kernel)), (tb_mem (t_in3 (List.mem_of_getElem? (i := 117) (by decide +kernel))) (by decide +kernel)), (tb_mem (t_in1 (List.mem_of_getElem? (i := 6) (by decide +kernel))) (by decide +kernel)), (tb_mem (t_in3 (List.mem_of_getElem? (i := 118) (by decide +kernel))) (by decide +kernel)), ⟨by decide +kernel, by decide +kernel, by decide +kernel⟩⟩
set_option maxHeartbeats 4000000 in
set_option maxRecDepth 20000 in
theorem sgX0_putFirst_0 {κ : Kx} {K : Kont} {M : Mem} (C : Cx κ RX0 cX0_putFirst 12 (some .int) rmX0_putFirst domC) (i1 : Int) (x2 : Int) (i3 : Int) (x4 : Int) (x5 : Int)
    (h :
    ∀ y6_9 : Int, y6_9 = bShl 1 (M 5 1 7) →
    inR (x5 * y6_9) ∧
    inR ((x5 * y6_9) + x4) ∧
    (0 ≤ ((x5 * y6_9) + x4) ∧ ((x5 * y6_9) + x4) < 12928) ∧
    ∀ y7_24 : Int, y7_24 = M 22 0 ((x5 * y6_9) + x4) →
    V κ 12 M 29 [some (.inr (21, 0)), some (.inr (14, i1)), some (.inl x2), some (.inr (18, i3)), some (.inl x4), some (.inl x5), some (.inl y6_9), some (.inl y7_24), some (.inl 0), none, none, none] [] K) : V κ 12 M 0 [some (.inr (21, 0)), some (.inr (14, i1)), some (.inl x2), some (.inr (18, i3)), some (.inl x4), some (.inl x5), none, none, none, none, none, none] [] K := by
  refine v_iconst C dX0_putFirst_0 (by decide) ?_
  refine v_aload_n C dX0_putFirst_1 rfl ?_
  refine v_get C dX0_putFirst_2 flX0_15 rfl (by decide) (by decide) (w := .inr (5, 1)) rfl ?_
  refine v_get C dX0_putFirst_5 flX0_19 rfl (by decide) (by decide) (w := .inl (M 5 1 7)) rfl ?_
  refine v_ishl C dX0_putFirst_8 ?_
  refine v_nm (fun y6_9 ey6_9 => ?_)
  replace h := h y6_9 ey6_9
  refine v_istore C dX0_putFirst_9 (by decide) (Nat.le_of_ble_eq_true rfl) (lv' := [some (.inr (21, 0)), some (.inr (14, i1)), some (.inl x2), some (.inr (18, i3)), some (.inl x4), some (.inl x5), some (.inl y6_9), none, none, none, none, none]) rfl ?_
  refine v_aload_n C dX0_putFirst_11 rfl ?_
  refine v_get C dX0_putFirst_12 flX0_9 rfl (by decide) (by decide) (w := .inr (22, 0)) rfl ?_
  refine v_iload C dX0_putFirst_15 rfl ?_
  refine v_iload C dX0_putFirst_17 rfl ?_
  refine v_imul C dX0_putFirst_19 h.1 ?_
  replace h := h.2
  refine v_iload C dX0_putFirst_20 rfl ?_
  refine v_iadd C dX0_putFirst_22 h.1 ?_
  replace h := h.2
  refine v_iald C dX0_putFirst_23 rfl h.1.1 h.1.2 ?_
  replace h := h.2
  refine v_nm (fun y7_24 ey7_24 => ?_)
  replace h := h y7_24 ey7_24
  refine v_istore C dX0_putFirst_24 (by decide) (Nat.le_of_ble_eq_true rfl) (lv' := [some (.inr (21, 0)), some (.inr (14, i1)), some (.inl x2), some (.inr (18, i3)), some (.inl x4), some (.inl x5), some (.inl y6_9), some (.inl y7_24), none, none, none, none]) rfl ?_
  refine v_iconst C dX0_putFirst_26 (by decide) ?_
  refine v_istore C dX0_putFirst_27 (by decide) (Nat.le_of_ble_eq_true rfl) (lv' := [some (.inr (21, 0)), some (.inr (14, i1)), some (.inl x2), some (.inr (18, i3)), some (.inl x4), some (.inl x5), some (.inl y6_9), some (.inl y7_24), some (.inl 0), none, none, none]) rfl ?_
  refine v_weak [some (.inr (21, 0)), some (.inr (14, i1)), some (.inl x2), some (.inr (18, i3)), some (.inl x4), some (.inl x5), some (.inl y6_9), some (.inl y7_24), some (.inl 0), none, none, none] ⟨rfl, rfl, rfl, rfl, rfl, rfl, rfl, rfl, rfl, trivial⟩ ?_
  exact h
set_option maxHeartbeats 4000000 in
set_option maxRecDepth 20000 in
theorem sgX0_putFirst_29 {κ : Kx} {K : Kont} {M : Mem} (C : Cx κ RX0 cX0_putFirst 12 (some .int) rmX0_putFirst domC) (i1 : Int) (x2 : Int) (i3 : Int) (x4 : Int) (x5 : Int) (x6 : Int) (x7 : Int) (x8 : Int)
    (h :
    (((M 5 1 7) ≤ x8 →
      K (some (-4)) M) ∧
     (¬ ((M 5 1 7) ≤ x8) →
      ∀ y9_45 : Int, y9_45 = bShl 1 x8 →
      spX0_neededSet x8 M (rI (fun r50 M50 =>
      (((bAnd x4 (bOr y9_45 r50)) = r50 →
        V κ 12 M50 74 [some (.inr (21, 0)), some (.inr (14, i1)), some (.inl x2), some (.inr (18, i3)), some (.inl x4), some (.inl x5), some (.inl x6), some (.inl x7), some (.inl x8), some (.inl y9_45), none, some (.inl 0)] [] K) ∧
       (¬ ((bAnd x4 (bOr y9_45 r50)) = r50) →
        inR (x8 + 1) ∧
        V κ 12 M50 29 [some (.inr (21, 0)), some (.inr (14, i1)), some (.inl x2), some (.inr (18, i3)), some (.inl x4), some (.inl x5), some (.inl x6), some (.inl x7), some (.inl (x8 + 1)), none, none, none] [] K))))))) : V κ 12 M 29 [some (.inr (21, 0)), some (.inr (14, i1)), some (.inl x2), some (.inr (18, i3)), some (.inl x4), some (.inl x5), some (.inl x6), some (.inl x7), some (.inl x8), none, none, none] [] K := by
  refine v_iload C dX0_putFirst_29 rfl ?_
  refine v_aload_n C dX0_putFirst_31 rfl ?_
  refine v_get C dX0_putFirst_32 flX0_15 rfl (by decide) (by decide) (w := .inr (5, 1)) rfl ?_
  refine v_get C dX0_putFirst_35 flX0_19 rfl (by decide) (by decide) (w := .inl (M 5 1 7)) rfl ?_
  refine v_icmp C dX0_putFirst_38 (tgt := 171) (by decide) (P := (M 5 1 7) ≤ x8) rfl (fun c38 => ?_) (fun c38 => ?_)
  · replace h := h.1 c38
    refine v_bipush C dX0_putFirst_171 (by decide) (by decide) ?_
    exact v_iret C dX0_putFirst_173 h
  · replace h := h.2 c38
    refine v_iconst C dX0_putFirst_41 (by decide) ?_
    refine v_iload C dX0_putFirst_42 rfl ?_
    refine v_ishl C dX0_putFirst_44 ?_
    refine v_nm (fun y9_45 ey9_45 => ?_)
    replace h := h y9_45 ey9_45
    refine v_istore C dX0_putFirst_45 (by decide) (Nat.le_of_ble_eq_true rfl) (lv' := [some (.inr (21, 0)), some (.inr (14, i1)), some (.inl x2), some (.inr (18, i3)), some (.inl x4), some (.inl x5), some (.inl x6), some (.inl x7), some (.inl x8), some (.inl y9_45), none, none]) rfl ?_
    refine v_aload_n C dX0_putFirst_47 rfl ?_
    refine v_iload C dX0_putFirst_48 rfl ?_
    refine v_invV C ctX0_neededSet dX0_putFirst_50 ivX0_48 ⟨by decide, by decide, rfl, rfl⟩ (x8 : Int) (As := [.inl x8]) rfl rfl rfl (by decide) rfl (st := []) rfl (Nat.le_of_ble_eq_true rfl) h (fun o M50 oM50 io50 h => ?_)
    obtain ⟨r50, rfl, h⟩ := rI_out h
    refine v_push ?_
    refine v_istore C dX0_putFirst_53 (by decide) (Nat.le_of_ble_eq_true rfl) (lv' := [some (.inr (21, 0)), some (.inr (14, i1)), some (.inl x2), some (.inr (18, i3)), some (.inl x4), some (.inl x5), some (.inl x6), some (.inl x7), some (.inl x8), some (.inl y9_45), some (.inl r50), none]) rfl ?_
    refine v_iload C dX0_putFirst_55 rfl ?_
    refine v_iload C dX0_putFirst_57 rfl ?_
    refine v_iload C dX0_putFirst_59 rfl ?_
    refine v_ior C dX0_putFirst_61 ?_
    refine v_iand C dX0_putFirst_62 ?_
    refine v_iload C dX0_putFirst_63 rfl ?_
    refine v_icmp C dX0_putFirst_65 (tgt := 71) (by decide) (P := (bAnd x4 (bOr y9_45 r50)) = r50) rfl (fun c65 => ?_) (fun c65 => ?_)
    · replace h := h.1 c65
      refine v_iconst C dX0_putFirst_71 (by decide) ?_
      refine v_istore C dX0_putFirst_72 (by decide) (Nat.le_of_ble_eq_true rfl) (lv' := [some (.inr (21, 0)), some (.inr (14, i1)), some (.inl x2), some (.inr (18, i3)), some (.inl x4), some (.inl x5), some (.inl x6), some (.inl x7), some (.inl x8), some (.inl y9_45), some (.inl r50), some (.inl 0)]) rfl ?_
      refine v_weak [some (.inr (21, 0)), some (.inr (14, i1)), some (.inl x2), some (.inr (18, i3)), some (.inl x4), some (.inl x5), some (.inl x6), some (.inl x7), some (.inl x8), some (.inl y9_45), none, some (.inl 0)] ⟨rfl, rfl, rfl, rfl, rfl, rfl, rfl, rfl, rfl, rfl, rfl, trivial⟩ ?_
      exact h
    · replace h := h.2 c65
      refine v_goto C dX0_putFirst_68 (tgt := 165) (by decide) ?_
      refine v_iinc C dX0_putFirst_165 (by decide) rfl h.1 (lv' := [some (.inr (21, 0)), some (.inr (14, i1)), some (.inl x2), some (.inr (18, i3)), some (.inl x4), some (.inl x5), some (.inl x6), some (.inl x7), some (.inl (x8 + 1)), some (.inl y9_45), some (.inl r50), none]) rfl ?_
      replace h := h.2
      refine v_goto C dX0_putFirst_168 (tgt := 29) (by decide) ?_
      refine v_weak [some (.inr (21, 0)), some (.inr (14, i1)), some (.inl x2), some (.inr (18, i3)), some (.inl x4), some (.inl x5), some (.inl x6), some (.inl x7), some (.inl (x8 + 1)), none, none, none] ⟨rfl, rfl, rfl, rfl, rfl, rfl, rfl, rfl, rfl, trivial⟩ ?_
      exact h
set_option maxHeartbeats 4000000 in
set_option maxRecDepth 20000 in
theorem sgX0_putFirst_74 {κ : Kx} {K : Kont} {M : Mem} (C : Cx κ RX0 cX0_putFirst 12 (some .int) rmX0_putFirst domC) (i1 : Int) (x2 : Int) (i3 : Int) (x4 : Int) (x5 : Int) (x6 : Int) (x7 : Int) (x8 : Int) (x9 : Int) (x11 : Int)
    (h :
    (0 ≤ x8 ∧ x8 < 7) ∧
    (((M 11 (7 * 1 + x8) 4) ≤ x11 →
      inR (x8 + 1) ∧
      V κ 12 M 29 [some (.inr (21, 0)), some (.inr (14, i1)), some (.inl x2), some (.inr (18, i3)), some (.inl x4), some (.inl x5), some (.inl x6), some (.inl x7), some (.inl (x8 + 1)), none, none, none] [] K) ∧
     (¬ ((M 11 (7 * 1 + x8) 4) ≤ x11) →
      spX6_ownWhyNot i1 x8 x11 x5 M (rI (fun r99 M99 =>
      ((r99 ≠ 0 →
        inR (x11 + 1) ∧
        V κ 12 M99 74 [some (.inr (21, 0)), some (.inr (14, i1)), some (.inl x2), some (.inr (18, i3)), some (.inl x4), some (.inl x5), some (.inl x6), some (.inl x7), some (.inl x8), some (.inl x9), none, some (.inl (x11 + 1))] [] K) ∧
       (¬ (r99 ≠ 0) →
        spX6_gainOf i1 x8 x11 x5 M99 (rI (fun r112 M112 =>
        spX0_nextFree x8 x11 x5 x2 M112 (rI (fun r127 M127 =>
        inR (r127 * x6) ∧
        inR ((r127 * x6) + x4) ∧
        inR (((r127 * x6) + x4) + x9) ∧
        (0 ≤ (((r127 * x6) + x4) + x9) ∧ (((r127 * x6) + x4) + x9) < 12928) ∧
        inR (r112 + (M127 22 0 (((r127 * x6) + x4) + x9))) ∧
        (((r112 + (M127 22 0 (((r127 * x6) + x4) + x9))) ≠ x7 →
          inR (x11 + 1) ∧
          V κ 12 M127 74 [some (.inr (21, 0)), some (.inr (14, i1)), some (.inl x2), some (.inr (18, i3)), some (.inl x4), some (.inl x5), some (.inl x6), some (.inl x7), some (.inl x8), some (.inl x9), none, some (.inl (x11 + 1))] [] K) ∧
         (¬ ((r112 + (M127 22 0 (((r127 * x6) + x4) + x9))) ≠ x7) →
          spX4_put i3 x8 x11 x5 M127 (rV (fun M153 =>
          K (some x8) M153))))))))))))))) : V κ 12 M 74 [some (.inr (21, 0)), some (.inr (14, i1)), some (.inl x2), some (.inr (18, i3)), some (.inl x4), some (.inl x5), some (.inl x6), some (.inl x7), some (.inl x8), some (.inl x9), none, some (.inl x11)] [] K := by
  refine v_iload C dX0_putFirst_74 rfl ?_
  refine v_aload_n C dX0_putFirst_76 rfl ?_
  refine v_get C dX0_putFirst_77 flX0_15 rfl (by decide) (by decide) (w := .inr (5, 1)) rfl ?_
  refine v_get C dX0_putFirst_80 flX0_38 rfl (by decide) (by decide) (w := .inr (10, 1)) rfl ?_
  refine v_iload C dX0_putFirst_83 rfl ?_
  refine v_aald C dX0_putFirst_85 h.1.1 h.1.2 ?_
  replace h := h.2
  refine v_get C dX0_putFirst_86 flX0_62 rfl (by decide) (by decide) (w := .inl (M 11 (7 * 1 + x8) 4)) rfl ?_
  refine v_icmp C dX0_putFirst_89 (tgt := 165) (by decide) (P := (M 11 (7 * 1 + x8) 4) ≤ x11) rfl (fun c89 => ?_) (fun c89 => ?_)
  · replace h := h.1 c89
    refine v_iinc C dX0_putFirst_165 (by decide) rfl h.1 (lv' := [some (.inr (21, 0)), some (.inr (14, i1)), some (.inl x2), some (.inr (18, i3)), some (.inl x4), some (.inl x5), some (.inl x6), some (.inl x7), some (.inl (x8 + 1)), some (.inl x9), none, some (.inl x11)]) rfl ?_
    replace h := h.2
    refine v_goto C dX0_putFirst_168 (tgt := 29) (by decide) ?_
    refine v_weak [some (.inr (21, 0)), some (.inr (14, i1)), some (.inl x2), some (.inr (18, i3)), some (.inl x4), some (.inl x5), some (.inl x6), some (.inl x7), some (.inl (x8 + 1)), none, none, none] ⟨rfl, rfl, rfl, rfl, rfl, rfl, rfl, rfl, rfl, trivial⟩ ?_
    exact h
  · replace h := h.2 c89
    refine v_aload_n C dX0_putFirst_92 rfl ?_
    refine v_iload C dX0_putFirst_93 rfl ?_
    refine v_iload C dX0_putFirst_95 rfl ?_
    refine v_iload C dX0_putFirst_97 rfl ?_
    refine v_invV C ctX6_ownWhyNot dX0_putFirst_99 ivX0_65 ⟨by decide, by decide, rfl, rfl⟩ ((i1, x8, x11, x5) : Int × Int × Int × Int) (As := [.inl x8, .inl x11, .inl x5]) rfl rfl rfl (by decide) rfl (st := []) rfl (Nat.le_of_ble_eq_true rfl) h (fun o M99 oM99 io99 h => ?_)
    obtain ⟨r99, rfl, h⟩ := rI_out h
    refine v_push ?_
    refine v_if C dX0_putFirst_102 (tgt := 159) (by decide) (P := r99 ≠ 0) rfl (fun c102 => ?_) (fun c102 => ?_)
    · replace h := h.1 c102
      refine v_iinc C dX0_putFirst_159 (by decide) rfl h.1 (lv' := [some (.inr (21, 0)), some (.inr (14, i1)), some (.inl x2), some (.inr (18, i3)), some (.inl x4), some (.inl x5), some (.inl x6), some (.inl x7), some (.inl x8), some (.inl x9), none, some (.inl (x11 + 1))]) rfl ?_
      replace h := h.2
      refine v_goto C dX0_putFirst_162 (tgt := 74) (by decide) ?_
      refine v_weak [some (.inr (21, 0)), some (.inr (14, i1)), some (.inl x2), some (.inr (18, i3)), some (.inl x4), some (.inl x5), some (.inl x6), some (.inl x7), some (.inl x8), some (.inl x9), none, some (.inl (x11 + 1))] ⟨rfl, rfl, rfl, rfl, rfl, rfl, rfl, rfl, rfl, rfl, rfl, trivial⟩ ?_
      exact h
    · replace h := h.2 c102
      refine v_aload_n C dX0_putFirst_105 rfl ?_
      refine v_iload C dX0_putFirst_106 rfl ?_
      refine v_iload C dX0_putFirst_108 rfl ?_
      refine v_iload C dX0_putFirst_110 rfl ?_
      refine v_invV C ctX6_gainOf dX0_putFirst_112 ivX0_75 ⟨by decide, by decide, rfl, rfl⟩ ((i1, x8, x11, x5) : Int × Int × Int × Int) (As := [.inl x8, .inl x11, .inl x5]) rfl rfl rfl (by decide) rfl (st := []) rfl (Nat.le_of_ble_eq_true rfl) h (fun o M112 oM112 io112 h => ?_)
      obtain ⟨r112, rfl, h⟩ := rI_out h
      refine v_push ?_
      refine v_aload_n C dX0_putFirst_115 rfl ?_
      refine v_get C dX0_putFirst_116 flX0_9 rfl (by decide) (by decide) (w := .inr (22, 0)) rfl ?_
      refine v_aload_n C dX0_putFirst_119 rfl ?_
      refine v_iload C dX0_putFirst_120 rfl ?_
      refine v_iload C dX0_putFirst_122 rfl ?_
      refine v_iload C dX0_putFirst_124 rfl ?_
      refine v_iload_n C dX0_putFirst_126 rfl ?_
      refine v_invV C ctX0_nextFree dX0_putFirst_127 ivX0_71 ⟨by decide, by decide, rfl, rfl⟩ ((x8, x11, x5, x2) : Int × Int × Int × Int) (As := [.inl x8, .inl x11, .inl x5, .inl x2]) rfl rfl rfl (by decide) rfl (st := [.inr (22, 0), .inl r112]) rfl (Nat.le_of_ble_eq_true rfl) h (fun o M127 oM127 io127 h => ?_)
      obtain ⟨r127, rfl, h⟩ := rI_out h
      refine v_push ?_
      refine v_iload C dX0_putFirst_130 rfl ?_
      refine v_imul C dX0_putFirst_132 h.1 ?_
      replace h := h.2
      refine v_iload C dX0_putFirst_133 rfl ?_
      refine v_iadd C dX0_putFirst_135 h.1 ?_
      replace h := h.2
      refine v_iload C dX0_putFirst_136 rfl ?_
      refine v_iadd C dX0_putFirst_138 h.1 ?_
      replace h := h.2
      refine v_iald C dX0_putFirst_139 rfl h.1.1 h.1.2 ?_
      replace h := h.2
      refine v_iadd C dX0_putFirst_140 h.1 ?_
      replace h := h.2
      refine v_iload C dX0_putFirst_141 rfl ?_
      refine v_icmp C dX0_putFirst_143 (tgt := 159) (by decide) (P := (r112 + (M127 22 0 (((r127 * x6) + x4) + x9))) ≠ x7) rfl (fun c143 => ?_) (fun c143 => ?_)
      · replace h := h.1 c143
        refine v_iinc C dX0_putFirst_159 (by decide) rfl h.1 (lv' := [some (.inr (21, 0)), some (.inr (14, i1)), some (.inl x2), some (.inr (18, i3)), some (.inl x4), some (.inl x5), some (.inl x6), some (.inl x7), some (.inl x8), some (.inl x9), none, some (.inl (x11 + 1))]) rfl ?_
        replace h := h.2
        refine v_goto C dX0_putFirst_162 (tgt := 74) (by decide) ?_
        refine v_weak [some (.inr (21, 0)), some (.inr (14, i1)), some (.inl x2), some (.inr (18, i3)), some (.inl x4), some (.inl x5), some (.inl x6), some (.inl x7), some (.inl x8), some (.inl x9), none, some (.inl (x11 + 1))] ⟨rfl, rfl, rfl, rfl, rfl, rfl, rfl, rfl, rfl, rfl, rfl, trivial⟩ ?_
        exact h
      · replace h := h.2 c143
        refine v_aload_n C dX0_putFirst_146 rfl ?_
        refine v_iload C dX0_putFirst_147 rfl ?_
        refine v_iload C dX0_putFirst_149 rfl ?_
        refine v_iload C dX0_putFirst_151 rfl ?_
        refine v_invV C ctX4_put dX0_putFirst_153 ivX0_110 ⟨by decide, by decide, rfl, rfl⟩ ((i3, x8, x11, x5) : Int × Int × Int × Int) (As := [.inl x8, .inl x11, .inl x5]) rfl rfl rfl (by decide) rfl (st := []) rfl (Nat.le_of_ble_eq_true rfl) h (fun o M153 oM153 io153 h => ?_)
        obtain ⟨rfl, h⟩ := rV_out h
        refine v_push0 ?_
        refine v_iload C dX0_putFirst_156 rfl ?_
        exact v_iret C dX0_putFirst_158 h
/-- the table stands from a tick on, for all pictures -/
def TabK (M : Mem) (F : Film) (S Q : Int → Int) (b : Int) : Prop := ∀ u told, 0 ≤ u → u ≤ F 0 0 0 → SubA F (bShl 1 (F 3 0 0) - 1) u told → M 22 0 (u * bShl 1 (F 3 0 0) + told) = tabR F S Q b (bShl 1 (F 3 0 0) - 1) (F 0 0 0).toNat u told
theorem all_bit {n k : Int} (hn : 0 ≤ n) (hn2 : n ≤ 7) (hk : 0 ≤ k) (hk2 : k < n) : bit (bShl 1 n - 1) k = true := by
  have key : ∀ m : Nat, m < 8 → ∀ j : Nat, j < m → bit (bShl 1 (m : Int) - 1) (j : Int) = true := by decide +kernel
  have := key n.toNat (by omega) k.toNat (by omega)
  rw [oi_nat hn, oi_nat hk] at this
  exact this
theorem own_bits {F : Film} (hf : WFf F) {told p : Int} (h0 : 0 ≤ told) (h1 : told < 128) (hp : 0 ≤ p) (hp2 : p < F 3 0 0) : bAnd told (bOr (bShl 1 p) (ndS F p)) = ndS F p ↔ (bit told p = false ∧ (F 12 p 0 = -4 ∨ bit told (F 12 p 0) = true)) := by
  have w := wf_p hf hp hp2
  have h2 := shl_lt128 (p := p) hp w.2.1
  have h3 := ndS_rng hf hp hp2
  have h4 := or_rng7 (x := bShl 1 p) (y := ndS F p) (by omega) (by omega) (by omega) (by omega)
  have bb : ∀ k, 0 ≤ k → bit (bAnd told (bOr (bShl 1 p) (ndS F p))) k = (bit told k && (decide (k = p) || decide (F 12 p 0 ≠ -4 ∧ k = F 12 p 0))) := by
    intro k k0
    rw [bit_and h0 (by omega) h4.1 (by omega), bit_or2 (by omega) (by omega) (by omega) (by omega), bit_shl hp (by omega) k0, nd_bit hf hp hp2 k0]
  constructor
  · intro h
    refine ⟨?_, ?_⟩
    · have := bb p hp
      rw [h, nd_bit hf hp hp2 hp] at this
      have e : ¬ (F 12 p 0 ≠ -4 ∧ p = F 12 p 0) := by omega
      simp [e] at this
      exact this
    · by_cases e : F 12 p 0 = -4
      · exact Or.inl e
      · right
        have := bb (F 12 p 0) (by omega)
        rw [h, nd_bit hf hp hp2 (by omega)] at this
        simp [e] at this
        exact this
  · rintro ⟨a, c⟩
    have h5 := bAnd_le (x := told) (y := bOr (bShl 1 p) (ndS F p)) h0 (by omega) h4.1 (by omega)
    refine bit_ext h5.1 (by omega) h3.1 (by omega) (fun k k0 k1 => ?_)
    rw [bb k k0, nd_bit hf hp hp2 k0]
    by_cases e : k = p
    · subst e
      have e2 : ¬ (F 12 k 0 ≠ -4 ∧ k = F 12 k 0) := by omega
      simp [a, e2]
    · by_cases e2 : F 12 p 0 ≠ -4 ∧ k = F 12 p 0
      · rcases c with c | c
        · exact absurd c e2.1
        · simp [e2, c]
      · simp [e, e2]
abbrev spX0_putFirst (tr b pl told t : Int) (M : Mem) (K : Kont) : Prop := (WFf (cFilm M 1) ∧ TrB M tr ∧ (0 ≤ b ∧ b ≤ 9) ∧ (0 ≤ t ∧ t < M 5 1 0) ∧ SubA (cFilm M 1) (bShl 1 (M 5 1 7) - 1) t told ∧ TabK M (cFilm M 1) (M 16 tr) (M 17 tr) b) ∧
  (fiP (cFilm M 1) (M 16 tr) (M 17 tr) b (tabR (cFilm M 1) (M 16 tr) (M 17 tr) b (bShl 1 (M 5 1 7) - 1) (M 5 1 0).toNat) t told (M 5 1 7).toNat 0 < 0 → K (some (-4)) M) ∧
  (∀ p v, 0 ≤ p → p < M 5 1 7 → 0 ≤ v → v < M 11 (7 * 1 + p) 4 → fiP (cFilm M 1) (M 16 tr) (M 17 tr) b (tabR (cFilm M 1) (M 16 tr) (M 17 tr) b (bShl 1 (M 5 1 7) - 1) (M 5 1 0).toNat) t told (M 5 1 7).toNat 0 = 3 * p + v → K (some p) (up3 (up3 M 19 pl p v) 20 pl p t))
set_option maxHeartbeats 1000000 in
theorem ctX0_putFirst : CtX0_putFirst spX0_putFirst := by
  refine ct_of (by decide) dmC (fun _ => Nat.le_of_ble_eq_true rfl) ?_
  intro κ a M K C oM h
  obtain ⟨tr, b, pl, told, t⟩ := a
  dsimp only [spX0_putFirst] at h
  obtain ⟨⟨hf, hb, hbr, ht, hs, hTab⟩, hk1, hk2⟩ := h
  have hT := hf.1
  have hnP := hf.2.2.2.1
  simp only [cFilm] at hT hnP
  have hw := shl_le7 (k := M 5 1 7) (by omega) (by omega)
  generalize hF : cFilm M 1 = F at *
  have f0 : F 0 0 0 = M 5 1 0 := by rw [← hF]; rfl
  have f3 : F 3 0 0 = M 5 1 7 := by rw [← hF]; rfl
  have f11 : ∀ p, F 11 p 0 = M 11 (7 * 1 + p) 4 := fun p => by rw [← hF]; rfl
  have hQB : QB (M 17 tr) := fun t a b => (hb t a b).2
  unfold TabK at hTab
  rw [f3, f0] at hTab
  generalize hf9 : tabR F (M 16 tr) (M 17 tr) b (bShl 1 (M 5 1 7) - 1) (M 5 1 0).toNat = f at *
  have frng : ∀ u s, 0 ≤ u → u ≤ M 5 1 0 → 0 ≤ f u s ∧ f u s ≤ 200000 := by
    intro u s a c
    have := tab_rng (S := M 16 tr) (may := bShl 1 (M 5 1 7) - 1) hf hQB hbr.1 (M 5 1 0).toNat u s (by omega) (by omega) (by omega)
    rw [hf9] at this
    omega
  have s1 := hs.1
  have s1' : told < bShl 1 (M 5 1 7) := by rw [← f3]; exact s1.2
  have hsor : ∀ p u, 0 ≤ p → p < M 5 1 7 → t < u → F 8 p 0 - F 9 p 0 ≤ t → SubA F (bShl 1 (M 5 1 7) - 1) u (bOr told (bShl 1 p)) := fun p u a c d e => sub_or hf hs d a (by omega) (all_bit (by omega) (by omega) a c) e
  generalize hW : bShl 1 (M 5 1 7) = w at *
  have hW3 : bShl 1 (F 3 0 0) = w := by rw [f3]; exact hW
  have mul : ∀ u, 0 ≤ u → u ≤ M 5 1 0 → 0 ≤ u * w ∧ u * w + w ≤ 12928 := by
    intro u a c
    have q1 := mul_rng (a := u) (b := w) (A := 100) (B := 128) a (by omega) (by omega) hw.2
    have q2 : (u + 1) * w ≤ 101 * 128 := Int.mul_le_mul (by omega) hw.2 (by omega) (by omega)
    rw [Int.add_mul, Int.one_mul] at q2
    omega
  have mt := mul t ht.1 (by omega)
  have due : M 22 0 (t * w + told) = f t told := hTab t told ht.1 (by omega) hs
  have outer : ∀ (n : Nat) (p : Int), 0 ≤ p → p + n = M 5 1 7 → (fiP F (M 16 tr) (M 17 tr) b f t told n p < 0 → K (some (-4)) M) →
      (∀ q v, 0 ≤ q → q < M 5 1 7 → 0 ≤ v → v < M 11 (7 * 1 + q) 4 → fiP F (M 16 tr) (M 17 tr) b f t told n p = 3 * q + v → K (some q) (up3 (up3 M 19 pl q v) 20 pl q t)) →
      V κ 12 M 29 [some (.inr (21, 0)), some (.inr (14, tr)), some (.inl b), some (.inr (18, pl)), some (.inl told), some (.inl t), some (.inl w), some (.inl (f t told)), some (.inl p), none, none, none] [] K := by
    intro n
    induction n with
    | zero =>
      intro p p0 pn k1 k2
      refine sgX0_putFirst_29 C tr b pl told t w _ p ⟨fun c => k1 (by show (-1 : Int) < 0; decide), fun c => absurd (by omega) c⟩
    | succ n ih =>
      intro p p0 pn k1 k2
      have wp := wf_p hf p0 (show p < F 3 0 0 by omega)
      have hown := shl_lt128 (p := p) p0 wp.2.1
      have ob := own_bits hf s1.1 (by omega) p0 (show p < F 3 0 0 by omega)
      have inner : ∀ (m : Nat) (v : Int), 0 ≤ v → v + m = M 11 (7 * 1 + p) 4 → (bit told p = false ∧ (F 12 p 0 = -4 ∨ bit told (F 12 p 0) = true)) → (fiV F (M 16 tr) (M 17 tr) b f t told p m v < 0 → V κ 12 M 29 [some (.inr (21, 0)), some (.inr (14, tr)), some (.inl b), some (.inr (18, pl)), some (.inl told), some (.inl t), some (.inl w), some (.inl (f t told)), some (.inl (p + 1)), none, none, none] [] K) →
          (∀ v', 0 ≤ v' → v' < M 11 (7 * 1 + p) 4 → fiV F (M 16 tr) (M 17 tr) b f t told p m v = 3 * p + v' → K (some p) (up3 (up3 M 19 pl p v') 20 pl p t)) →
          V κ 12 M 74 [some (.inr (21, 0)), some (.inr (14, tr)), some (.inl b), some (.inr (18, pl)), some (.inl told), some (.inl t), some (.inl w), some (.inl (f t told)), some (.inl p), some (.inl (bShl 1 p)), none, some (.inl v)] [] K := by
        intro m
        induction m with
        | zero =>
          intro v v0 vn hok k3 k4
          exact sgX0_putFirst_74 C tr b pl told t w _ p _ v ⟨by omega, fun c => ⟨by omega, k3 (by show (-1 : Int) < 0; decide)⟩, fun c => absurd (by omega) c⟩
        | succ m ih2 =>
          intro v v0 vn hok k3 k4
          have wv := wf_pv hf p0 (show p < F 3 0 0 by omega) v0 (by rw [f11]; omega)
          have hg := gainQ_rng hf hQB p0 (show p < F 3 0 0 by omega) v0 (by rw [f11]; omega) ht.1 (by omega)
          unfold fiV at k3 k4
          refine sgX0_putFirst_74 C tr b pl told t w _ p _ v ⟨by omega, fun c => absurd c (by omega), fun c => ⟨⟨by rw [hF]; exact hf, by omega, by omega, ht⟩, ?_, ?_⟩⟩
          · intro c2
            rw [hF] at c2
            rw [if_neg (fun z => c2 z.1.2.2)] at k3 k4
            exact ⟨by omega, ih2 (v + 1) (by omega) (by omega) hok k3 k4⟩
          · intro c2
            rw [hF] at c2
            have c3 : ownW F (M 16 tr) p v t = 0 := by omega
            have oe := own_end c3
            refine ⟨⟨by rw [hF]; exact hf, hb, by omega, by omega, ht⟩, ⟨by rw [hF]; exact hf, by omega, by omega, ht, hbr⟩, ?_⟩
            rw [hF]
            have hnx : t < min (t + F 13 p v + b) (F 0 0 0) ∧ min (t + F 13 p v + b) (F 0 0 0) ≤ M 5 1 0 := by omega
            have hsr := hsor p _ p0 (by omega) hnx.1 (by omega)
            have hbw : begW F (M 17 tr) b f p v t told = gainW F (M 17 tr) p v t + f (min (t + F 13 p v + b) (F 0 0 0)) (bOr told (bShl 1 p)) := rfl
            generalize min (t + F 13 p v + b) (F 0 0 0) = nx at *
            have mn := mul nx (by omega) hnx.2
            have had := add_bit (s := told) (q := p) s1.1 (by omega) p0 (by omega) hok.1
            have q1 := hsr.1
            rw [hW3] at q1
            have hval : M 22 0 (nx * w + told + bShl 1 p) = f nx (bOr told (bShl 1 p)) := by
              have e77 : nx * w + told + bShl 1 p = nx * w + bOr told (bShl 1 p) := by omega
              rw [e77]
              exact hTab nx _ (by omega) hnx.2 hsr
            have hfr := frng nx (bOr told (bShl 1 p)) (by omega) hnx.2
            refine ⟨by omega, by omega, by omega, by omega, by rw [hval]; omega, ?_, ?_⟩
            · intro c4
              rw [hval, ← hbw] at c4
              rw [if_neg (fun z => c4 z.2)] at k3 k4
              exact ⟨by omega, ih2 (v + 1) (by omega) (by omega) hok k3 k4⟩
            · intro c4
              rw [hval, ← hbw] at c4
              have c5 : begW F (M 17 tr) b f p v t told = f t told := by omega
              rw [if_pos ⟨⟨hok.1, hok.2, c3⟩, c5⟩] at k4
              exact ⟨by omega, k4 v v0 (by omega) rfl⟩
      unfold fiP at k1 k2
      refine sgX0_putFirst_29 C tr b pl told t w _ p ⟨fun c => absurd c (by omega), fun c y ey => ⟨⟨p0, by omega⟩, ?_, ?_⟩⟩
      · intro c2
        rw [hF, ey] at c2
        have hok := ob.mp c2
        rw [ey]
        refine inner (M 11 (7 * 1 + p) 4).toNat 0 (by omega) (by rw [← f11]; omega) hok ?_ ?_
        · intro c3
          rw [f11, if_pos c3] at k1 k2
          exact ih (p + 1) (by omega) (by omega) k1 k2
        · intro v' a d e
          rw [f11, if_neg (by omega)] at k2
          exact k2 p v' p0 (by omega) a d e
      · intro c2
        rw [hF, ey] at c2
        have hno : ∀ (m : Nat) (v : Int), fiV F (M 16 tr) (M 17 tr) b f t told p m v = -1 := by
          intro m
          induction m with
          | zero => intro v; rfl
          | succ m ih3 =>
            intro v
            unfold fiV
            rw [if_neg (fun z => c2 (ob.mpr ⟨z.1.1, z.1.2.1⟩))]
            exact ih3 (v + 1)
        rw [hno, if_pos (by decide)] at k1 k2
        exact ⟨by omega, ih (p + 1) (by omega) (by omega) k1 k2⟩
  refine sgX0_putFirst_0 C tr b pl told t (fun y6 ey6 => ?_)
  rw [hW] at ey6
  rw [ey6]
  refine ⟨by omega, by omega, by omega, fun y7 ey7 => ?_⟩
  rw [ey7, due]
  exact outer (M 5 1 7).toNat 0 (by omega) (by omega) hk1 hk2
/-! ===== GapTellings$BestFinder.trace ===== -/
abbrev rmX0_trace : Room := { frames := 3, cells := 0, slots := 0, locals := 79 }
abbrev argX0_trace (a : Int × Int × Int) : List PV := [.inr (21, 0), .inr (14, a.1), .inl a.2.1, .inr (18, a.2.2)]
abbrev CtX0_trace (sp : Int → Int → Int → Mem → Kont → Prop) : Prop := Ct yX0_trace cX0_trace 8 none rmX0_trace domC argX0_trace (fun a => sp a.1 a.2.1 a.2.2)
theorem dX0_trace_0 : decode cX0_trace 0 = .ok (.aload_n 3, 1) := by decide +kernel
theorem dX0_trace_1 : decode cX0_trace 1 = .ok (.invokevirtual 98, 3) := by decide +kernel
theorem dX0_trace_4 : decode cX0_trace 4 = .ok (.iconst 0, 1) := by decide +kernel
theorem dX0_trace_5 : decode cX0_trace 5 = .ok (.istore 4, 2) := by decide +kernel
theorem dX0_trace_7 : decode cX0_trace 7 = .ok (.iconst 0, 1) := by decide +kernel
theorem dX0_trace_8 : decode cX0_trace 8 = .ok (.istore 5, 2) := by decide +kernel
theorem dX0_trace_10 : decode cX0_trace 10 = .ok (.iconst 0, 1) := by decide +kernel
theorem dX0_trace_11 : decode cX0_trace 11 = .ok (.istore 6, 2) := by decide +kernel
theorem dX0_trace_13 : decode cX0_trace 13 = .ok (.iload 6, 2) := by decide +kernel
theorem dX0_trace_15 : decode cX0_trace 15 = .ok (.aload_n 0, 1) := by decide +kernel
theorem dX0_trace_16 : decode cX0_trace 16 = .ok (.getfield 15, 3) := by decide +kernel
theorem dX0_trace_19 : decode cX0_trace 19 = .ok (.getfield 25, 3) := by decide +kernel
theorem dX0_trace_22 : decode cX0_trace 22 = .ok (.if_icmp .ge 68, 3) := by decide +kernel
theorem dX0_trace_25 : decode cX0_trace 25 = .ok (.iload 6, 2) := by decide +kernel
theorem dX0_trace_27 : decode cX0_trace 27 = .ok (.iload 5, 2) := by decide +kernel
theorem dX0_trace_29 : decode cX0_trace 29 = .ok (.if_icmp .ge 8, 3) := by decide +kernel
theorem dX0_trace_32 : decode cX0_trace 32 = .ok (.bipush (-4), 2) := by decide +kernel
theorem dX0_trace_34 : decode cX0_trace 34 = .ok (.goto 14, 3) := by decide +kernel
theorem dX0_trace_37 : decode cX0_trace 37 = .ok (.aload_n 0, 1) := by decide +kernel
theorem dX0_trace_38 : decode cX0_trace 38 = .ok (.aload_n 1, 1) := by decide +kernel
theorem dX0_trace_39 : decode cX0_trace 39 = .ok (.iload_n 2, 1) := by decide +kernel
theorem dX0_trace_40 : decode cX0_trace 40 = .ok (.aload_n 3, 1) := by decide +kernel
theorem dX0_trace_41 : decode cX0_trace 41 = .ok (.iload 4, 2) := by decide +kernel
theorem dX0_trace_43 : decode cX0_trace 43 = .ok (.iload 6, 2) := by decide +kernel
theorem dX0_trace_45 : decode cX0_trace 45 = .ok (.invokevirtual 103, 3) := by decide +kernel
theorem dX0_trace_48 : decode cX0_trace 48 = .ok (.istore 7, 2) := by decide +kernel
theorem dX0_trace_50 : decode cX0_trace 50 = .ok (.iload 7, 2) := by decide +kernel
theorem dX0_trace_52 : decode cX0_trace 52 = .ok (.bipush (-4), 2) := by decide +kernel
theorem dX0_trace_54 : decode cX0_trace 54 = .ok (.if_icmp .eq 30, 3) := by decide +kernel
theorem dX0_trace_57 : decode cX0_trace 57 = .ok (.iload 4, 2) := by decide +kernel
theorem dX0_trace_59 : decode cX0_trace 59 = .ok (.iconst 1, 1) := by decide +kernel
theorem dX0_trace_60 : decode cX0_trace 60 = .ok (.iload 7, 2) := by decide +kernel
theorem dX0_trace_62 : decode cX0_trace 62 = .ok (.ishl, 1) := by decide +kernel
theorem dX0_trace_63 : decode cX0_trace 63 = .ok (.ior, 1) := by decide +kernel
theorem dX0_trace_64 : decode cX0_trace 64 = .ok (.istore 4, 2) := by decide +kernel
theorem dX0_trace_66 : decode cX0_trace 66 = .ok (.aload_n 0, 1) := by decide +kernel
theorem dX0_trace_67 : decode cX0_trace 67 = .ok (.iload 7, 2) := by decide +kernel
theorem dX0_trace_69 : decode cX0_trace 69 = .ok (.aload_n 3, 1) := by decide +kernel
theorem dX0_trace_70 : decode cX0_trace 70 = .ok (.getfield 107, 3) := by decide +kernel
theorem dX0_trace_73 : decode cX0_trace 73 = .ok (.iload 7, 2) := by decide +kernel
theorem dX0_trace_75 : decode cX0_trace 75 = .ok (.iaload, 1) := by decide +kernel
theorem dX0_trace_76 : decode cX0_trace 76 = .ok (.iload 6, 2) := by decide +kernel
theorem dX0_trace_78 : decode cX0_trace 78 = .ok (.iload_n 2, 1) := by decide +kernel
theorem dX0_trace_79 : decode cX0_trace 79 = .ok (.invokevirtual 71, 3) := by decide +kernel
theorem dX0_trace_82 : decode cX0_trace 82 = .ok (.istore 5, 2) := by decide +kernel
theorem dX0_trace_84 : decode cX0_trace 84 = .ok (.iinc 6 1, 3) := by decide +kernel
theorem dX0_trace_87 : decode cX0_trace 87 = .ok (.goto (-74), 3) := by decide +kernel
theorem dX0_trace_90 : decode cX0_trace 90 = .ok (.return_, 1) := by decide +kernel
theorem ivX0_98 : IV RX0 98 yX4_clear cX4_clear 1 none 0 := ⟨(tb_mem (t_in3 (List.mem_of_getElem? (i := 205) (by decide +kernel))) (by decide +kernel)), (tb_mem (t_in2 (List.mem_of_getElem? (i := 195) (by decide +kernel))) (by decide +kernel)), (tb_mem (t_in2 (List.mem_of_getElem? (i := 196) (by decide +kernel))) (by decide +kernel)), (tb_mem (t_in1 (List.mem_of_getElem? (i := 6) (by decide +kernel))) (by decide +kernel)), (tb_mem (t_in2 (List.mem_of_getElem? (i := 197) (by decide +kernel))) (by decide +kernel)), ⟨by decide +kernel, by decide +kernel, by decide +kernel⟩⟩
theorem ivX0_103 : IV RX0 103 yX0_putFirst cX0_putFirst 12 (some .int) 5 := ⟨(tb_mem (t_in3 (List.mem_of_getElem? (i := 206) (by decide +kernel))) (by decide +kernel)), (tb_mem (t_in3 (List.mem_of_getElem? (i := 207) (by decide +kernel))) (by decide +kernel)), (tb_mem (t_in3 (List.mem_of_getElem? (i := 208) (by decide +kernel))) (by decide +kernel)), (tb_mem (t_in1 (List.mem_of_getElem? (i := 8) (by decide +kernel))) (by decide +kernel)), (tb_mem (t_in3 (List.mem_of_getElem? (i := 209) (by decide +kernel))) (by decide +kernel)), ⟨by decide +kernel, by decide +kernel, by decide +kernel⟩⟩
theorem flX0_107 : FL RX0 107 4 1 := ⟨_, _, _, rfl, by decide, uwX4, Or.inr ⟨"GapTellings", (nw_mem (t_in1 (List.mem_of_getElem? (i := 195) (by decide +kernel))) (by decide +kernel))⟩⟩
set_option maxHeartbeats 4000000 in
set_option maxRecDepth 20000 in
theorem sgX0_trace_0 {κ : Kx} {K : Kont} {M : Mem} (C : Cx κ RX0 cX0_trace 8 none rmX0_trace domC) (i1 : Int) (x2 : Int) (i3 : Int)
    (h :
    spX4_clear i3 M (rV (fun M1 =>
    V κ 8 M1 13 [some (.inr (21, 0)), some (.inr (14, i1)), some (.inl x2), some (.inr (18, i3)), some (.inl 0), some (.inl 0), some (.inl 0), none] [] K))) : V κ 8 M 0 [some (.inr (21, 0)), some (.inr (14, i1)), some (.inl x2), some (.inr (18, i3)), none, none, none, none] [] K := by
  refine v_aload_n C dX0_trace_0 rfl ?_
  refine v_invV C ctX4_clear dX0_trace_1 ivX0_98 ⟨by decide, by decide, rfl, rfl⟩ (i3 : Int) (As := []) rfl rfl rfl (by decide) rfl (st := []) rfl (Nat.le_of_ble_eq_true rfl) h (fun o M1 oM1 io1 h => ?_)
  obtain ⟨rfl, h⟩ := rV_out h
  refine v_push0 ?_
  refine v_iconst C dX0_trace_4 (by decide) ?_
  refine v_istore C dX0_trace_5 (by decide) (Nat.le_of_ble_eq_true rfl) (lv' := [some (.inr (21, 0)), some (.inr (14, i1)), some (.inl x2), some (.inr (18, i3)), some (.inl 0), none, none, none]) rfl ?_
  refine v_iconst C dX0_trace_7 (by decide) ?_
  refine v_istore C dX0_trace_8 (by decide) (Nat.le_of_ble_eq_true rfl) (lv' := [some (.inr (21, 0)), some (.inr (14, i1)), some (.inl x2), some (.inr (18, i3)), some (.inl 0), some (.inl 0), none, none]) rfl ?_
  refine v_iconst C dX0_trace_10 (by decide) ?_
  refine v_istore C dX0_trace_11 (by decide) (Nat.le_of_ble_eq_true rfl) (lv' := [some (.inr (21, 0)), some (.inr (14, i1)), some (.inl x2), some (.inr (18, i3)), some (.inl 0), some (.inl 0), some (.inl 0), none]) rfl ?_
  refine v_weak [some (.inr (21, 0)), some (.inr (14, i1)), some (.inl x2), some (.inr (18, i3)), some (.inl 0), some (.inl 0), some (.inl 0), none] ⟨rfl, rfl, rfl, rfl, rfl, rfl, rfl, trivial⟩ ?_
  exact h
set_option maxHeartbeats 4000000 in
set_option maxRecDepth 20000 in
theorem sgX0_trace_13 {κ : Kx} {K : Kont} {M : Mem} (C : Cx κ RX0 cX0_trace 8 none rmX0_trace domC) (i1 : Int) (x2 : Int) (i3 : Int) (x4 : Int) (x5 : Int) (x6 : Int)
    (h :
    (((M 5 1 0) ≤ x6 →
      K none M) ∧
     (¬ ((M 5 1 0) ≤ x6) →
      ((x5 ≤ x6 →
        spX0_putFirst i1 x2 i3 x4 x6 M (rI (fun r45 M45 =>
        ((r45 = (-4) →
          inR (x6 + 1) ∧
          V κ 8 M45 13 [some (.inr (21, 0)), some (.inr (14, i1)), some (.inl x2), some (.inr (18, i3)), some (.inl x4), some (.inl x5), some (.inl (x6 + 1)), none] [] K) ∧
         (¬ (r45 = (-4)) →
          ∀ y4_64 : Int, y4_64 = bOr x4 (bShl 1 r45) →
          (0 ≤ r45 ∧ r45 < 7) ∧
          spX0_nextFree r45 (M45 19 i3 r45) x6 x2 M45 (rI (fun r79 M79 =>
          inR (x6 + 1) ∧
          V κ 8 M79 13 [some (.inr (21, 0)), some (.inr (14, i1)), some (.inl x2), some (.inr (18, i3)), some (.inl y4_64), some (.inl r79), some (.inl (x6 + 1)), none] [] K))))))) ∧
       (¬ (x5 ≤ x6) →
        inR (x6 + 1) ∧
        V κ 8 M 13 [some (.inr (21, 0)), some (.inr (14, i1)), some (.inl x2), some (.inr (18, i3)), some (.inl x4), some (.inl x5), some (.inl (x6 + 1)), none] [] K))))) : V κ 8 M 13 [some (.inr (21, 0)), some (.inr (14, i1)), some (.inl x2), some (.inr (18, i3)), some (.inl x4), some (.inl x5), some (.inl x6), none] [] K := by
  refine v_iload C dX0_trace_13 rfl ?_
  refine v_aload_n C dX0_trace_15 rfl ?_
  refine v_get C dX0_trace_16 flX0_15 rfl (by decide) (by decide) (w := .inr (5, 1)) rfl ?_
  refine v_get C dX0_trace_19 flX0_25 rfl (by decide) (by decide) (w := .inl (M 5 1 0)) rfl ?_
  refine v_icmp C dX0_trace_22 (tgt := 90) (by decide) (P := (M 5 1 0) ≤ x6) rfl (fun c22 => ?_) (fun c22 => ?_)
  · replace h := h.1 c22
    exact v_vret C dX0_trace_90 h
  · replace h := h.2 c22
    refine v_iload C dX0_trace_25 rfl ?_
    refine v_iload C dX0_trace_27 rfl ?_
    refine v_icmp C dX0_trace_29 (tgt := 37) (by decide) (P := x5 ≤ x6) rfl (fun c29 => ?_) (fun c29 => ?_)
    · replace h := h.1 c29
      refine v_aload_n C dX0_trace_37 rfl ?_
      refine v_aload_n C dX0_trace_38 rfl ?_
      refine v_iload_n C dX0_trace_39 rfl ?_
      refine v_aload_n C dX0_trace_40 rfl ?_
      refine v_iload C dX0_trace_41 rfl ?_
      refine v_iload C dX0_trace_43 rfl ?_
      refine v_invV C ctX0_putFirst dX0_trace_45 ivX0_103 ⟨by decide, by decide, rfl, rfl⟩ ((i1, x2, i3, x4, x6) : Int × Int × Int × Int × Int) (As := [.inr (14, i1), .inl x2, .inr (18, i3), .inl x4, .inl x6]) rfl rfl rfl (by decide) rfl (st := []) rfl (Nat.le_of_ble_eq_true rfl) h (fun o M45 oM45 io45 h => ?_)
      obtain ⟨r45, rfl, h⟩ := rI_out h
      refine v_push ?_
      refine v_istore C dX0_trace_48 (by decide) (Nat.le_of_ble_eq_true rfl) (lv' := [some (.inr (21, 0)), some (.inr (14, i1)), some (.inl x2), some (.inr (18, i3)), some (.inl x4), some (.inl x5), some (.inl x6), some (.inl r45)]) rfl ?_
      refine v_iload C dX0_trace_50 rfl ?_
      refine v_bipush C dX0_trace_52 (by decide) (by decide) ?_
      refine v_icmp C dX0_trace_54 (tgt := 84) (by decide) (P := r45 = (-4)) rfl (fun c54 => ?_) (fun c54 => ?_)
      · replace h := h.1 c54
        refine v_iinc C dX0_trace_84 (by decide) rfl h.1 (lv' := [some (.inr (21, 0)), some (.inr (14, i1)), some (.inl x2), some (.inr (18, i3)), some (.inl x4), some (.inl x5), some (.inl (x6 + 1)), some (.inl r45)]) rfl ?_
        replace h := h.2
        refine v_goto C dX0_trace_87 (tgt := 13) (by decide) ?_
        refine v_weak [some (.inr (21, 0)), some (.inr (14, i1)), some (.inl x2), some (.inr (18, i3)), some (.inl x4), some (.inl x5), some (.inl (x6 + 1)), none] ⟨rfl, rfl, rfl, rfl, rfl, rfl, rfl, trivial⟩ ?_
        exact h
      · replace h := h.2 c54
        refine v_iload C dX0_trace_57 rfl ?_
        refine v_iconst C dX0_trace_59 (by decide) ?_
        refine v_iload C dX0_trace_60 rfl ?_
        refine v_ishl C dX0_trace_62 ?_
        refine v_ior C dX0_trace_63 ?_
        refine v_nm (fun y4_64 ey4_64 => ?_)
        replace h := h y4_64 ey4_64
        refine v_istore C dX0_trace_64 (by decide) (Nat.le_of_ble_eq_true rfl) (lv' := [some (.inr (21, 0)), some (.inr (14, i1)), some (.inl x2), some (.inr (18, i3)), some (.inl y4_64), some (.inl x5), some (.inl x6), some (.inl r45)]) rfl ?_
        refine v_aload_n C dX0_trace_66 rfl ?_
        refine v_iload C dX0_trace_67 rfl ?_
        refine v_aload_n C dX0_trace_69 rfl ?_
        refine v_get C dX0_trace_70 flX0_107 rfl (by decide) (by decide) (w := .inr (19, i3)) rfl ?_
        refine v_iload C dX0_trace_73 rfl ?_
        refine v_iald C dX0_trace_75 rfl h.1.1 h.1.2 ?_
        replace h := h.2
        refine v_iload C dX0_trace_76 rfl ?_
        refine v_iload_n C dX0_trace_78 rfl ?_
        refine v_invV C ctX0_nextFree dX0_trace_79 ivX0_71 ⟨by decide, by decide, rfl, rfl⟩ ((r45, M45 19 i3 r45, x6, x2) : Int × Int × Int × Int) (As := [.inl r45, .inl (M45 19 i3 r45), .inl x6, .inl x2]) rfl rfl rfl (by decide) rfl (st := []) rfl (Nat.le_of_ble_eq_true rfl) h (fun o M79 oM79 io79 h => ?_)
        obtain ⟨r79, rfl, h⟩ := rI_out h
        refine v_push ?_
        refine v_istore C dX0_trace_82 (by decide) (Nat.le_of_ble_eq_true rfl) (lv' := [some (.inr (21, 0)), some (.inr (14, i1)), some (.inl x2), some (.inr (18, i3)), some (.inl y4_64), some (.inl r79), some (.inl x6), some (.inl r45)]) rfl ?_
        refine v_iinc C dX0_trace_84 (by decide) rfl h.1 (lv' := [some (.inr (21, 0)), some (.inr (14, i1)), some (.inl x2), some (.inr (18, i3)), some (.inl y4_64), some (.inl r79), some (.inl (x6 + 1)), some (.inl r45)]) rfl ?_
        replace h := h.2
        refine v_goto C dX0_trace_87 (tgt := 13) (by decide) ?_
        refine v_weak [some (.inr (21, 0)), some (.inr (14, i1)), some (.inl x2), some (.inr (18, i3)), some (.inl y4_64), some (.inl r79), some (.inl (x6 + 1)), none] ⟨rfl, rfl, rfl, rfl, rfl, rfl, rfl, trivial⟩ ?_
        exact h
    · replace h := h.2 c29
      refine v_bipush C dX0_trace_32 (by decide) (by decide) ?_
      refine v_goto C dX0_trace_34 (tgt := 48) (by decide) ?_
      refine v_istore C dX0_trace_48 (by decide) (Nat.le_of_ble_eq_true rfl) (lv' := [some (.inr (21, 0)), some (.inr (14, i1)), some (.inl x2), some (.inr (18, i3)), some (.inl x4), some (.inl x5), some (.inl x6), some (.inl (-4))]) rfl ?_
      refine v_iload C dX0_trace_50 rfl ?_
      refine v_bipush C dX0_trace_52 (by decide) (by decide) ?_
      refine v_icmp C dX0_trace_54 (tgt := 84) (by decide) (P := ((-4) : Int) = (-4)) rfl (fun _ => ?_) (fun c54 => absurd (by decide) c54)
      refine v_iinc C dX0_trace_84 (by decide) rfl h.1 (lv' := [some (.inr (21, 0)), some (.inr (14, i1)), some (.inl x2), some (.inr (18, i3)), some (.inl x4), some (.inl x5), some (.inl (x6 + 1)), some (.inl (-4))]) rfl ?_
      replace h := h.2
      refine v_goto C dX0_trace_87 (tgt := 13) (by decide) ?_
      refine v_weak [some (.inr (21, 0)), some (.inr (14, i1)), some (.inl x2), some (.inr (18, i3)), some (.inl x4), some (.inl x5), some (.inl (x6 + 1)), none] ⟨rfl, rfl, rfl, rfl, rfl, rfl, rfl, trivial⟩ ?_
      exact h
theorem trC_eq (F : Film) (S Q : Int → Int) (B : Int) (f : Int → Int → Int) : ∀ (n : Nat) (t free set : Int) (ver sta ver' sta' : Int → Int), PlEq ver sta ver' sta' → PlEq (trC F S Q B f n t free set ver sta).1 (trC F S Q B f n t free set ver sta).2 (trC F S Q B f n t free set ver' sta').1 (trC F S Q B f n t free set ver' sta').2 := by
  intro n
  induction n with
  | zero => intro t free set ver sta ver' sta' h; exact h
  | succ n ih =>
    intro t free set ver sta ver' sta' h
    unfold trC
    split
    · exact ih _ _ _ _ _ _ _ h
    · split
      · exact ih _ _ _ _ _ _ _ h
      · exact ih _ _ _ _ _ _ _ (h.put _ _ _)
/-- the best plan -/
def bstP (F : Film) (S Q : Int → Int) (B : Int) : (Int → Int) × (Int → Int) := trC F S Q B (tabR F S Q B (bShl 1 (F 3 0 0) - 1) (F 0 0 0).toNat) (F 0 0 0).toNat 0 0 0 (fun _ => -4) (fun _ => -4)
abbrev spX0_trace (tr b pl : Int) (M : Mem) (K : Kont) : Prop := (WFf (cFilm M 1) ∧ TrB M tr ∧ (0 ≤ b ∧ b ≤ 9) ∧ TabK M (cFilm M 1) (M 16 tr) (M 17 tr) b) ∧
  ∀ M', AgP M M' pl → PlK (cFilm M 1) (M' 19 pl) (M' 20 pl) → PlEq (M' 19 pl) (M' 20 pl) (bstP (cFilm M 1) (M 16 tr) (M 17 tr) b).1 (bstP (cFilm M 1) (M 16 tr) (M 17 tr) b).2 → K none M'
theorem clr_19 (M : Mem) (pl : Int) {q : Int} (a : 0 ≤ q) (b : q < 7) : filM (filM M 19 pl 7 (-4)) 20 pl 7 (-4) 19 pl q = -4 := by
  unfold filM
  rw [if_neg (by omega), if_pos ⟨rfl, rfl, a, b⟩]
theorem clr_20 (M : Mem) (pl : Int) {q : Int} (a : 0 ≤ q) (b : q < 7) : filM (filM M 19 pl 7 (-4)) 20 pl 7 (-4) 20 pl q = -4 := by
  unfold filM
  rw [if_pos ⟨rfl, rfl, a, b⟩]
theorem clr_ag (M : Mem) (pl : Int) : AgP M (filM (filM M 19 pl 7 (-4)) 20 pl 7 (-4)) pl := by
  intro r i hn
  funext j
  unfold filM
  rw [if_neg (fun z => hn ⟨Or.inr z.1, z.2.1⟩), if_neg (fun z => hn ⟨Or.inl z.1, z.2.1⟩)]
theorem ctX0_trace : CtX0_trace spX0_trace := by
  refine ct_of (by decide) dmC (fun _ => Nat.le_of_ble_eq_true rfl) ?_
  intro κ a M K C oM h
  obtain ⟨tr, b, pl⟩ := a
  dsimp only [spX0_trace] at h
  obtain ⟨⟨hf, hb, hbr, hTab⟩, hk⟩ := h
  have hT := hf.1
  have hnP := hf.2.2.2.1
  simp only [cFilm] at hT hnP
  have hw := shl_le7 (k := M 5 1 7) (by omega) (by omega)
  generalize hF : cFilm M 1 = F at *
  have f0 : F 0 0 0 = M 5 1 0 := by rw [← hF]; rfl
  have f3 : F 3 0 0 = M 5 1 7 := by rw [← hF]; rfl
  have f11 : ∀ p, F 11 p 0 = M 11 (7 * 1 + p) 4 := fun p => by rw [← hF]; rfl
  unfold bstP at hk
  generalize hf9 : tabR F (M 16 tr) (M 17 tr) b (bShl 1 (F 3 0 0) - 1) (F 0 0 0).toNat = f at *
  have loop : ∀ (n : Nat) (t free told : Int) (N : Mem), 0 ≤ t → t + n = M 5 1 0 → AgP M N pl → PlK F (N 19 pl) (N 20 pl) → SubA F (bShl 1 (F 3 0 0) - 1) t told →
      (∀ M', AgP M M' pl → PlK F (M' 19 pl) (M' 20 pl) → PlEq (M' 19 pl) (M' 20 pl) (trC F (M 16 tr) (M 17 tr) b f n t free told (N 19 pl) (N 20 pl)).1 (trC F (M 16 tr) (M 17 tr) b f n t free told (N 19 pl) (N 20 pl)).2 → K none M') →
      V κ 8 N 13 [some (.inr (21, 0)), some (.inr (14, tr)), some (.inl b), some (.inr (18, pl)), some (.inl told), some (.inl free), some (.inl t), none] [] K := by
    intro n
    induction n with
    | zero =>
      intro t free told N t0 tn hA hP hs hk
      have e5 : N 5 1 = M 5 1 := hA 5 1 (by omega)
      refine sgX0_trace_13 C tr b pl told free t ⟨fun c => hk N hA hP PlEq.rf, fun c => absurd (by rw [e5]; omega) c⟩
    | succ n ih =>
      intro t free told N t0 tn hA hP hs hk
      have e5 : N 5 1 = M 5 1 := hA 5 1 (by omega)
      have eF : cFilm N 1 = F := by rw [hA.film 1]; exact hF
      have e16 : N 16 tr = M 16 tr := hA 16 tr (by omega)
      have e17 : N 17 tr = M 17 tr := hA 17 tr (by omega)
      have e22 : N 22 0 = M 22 0 := hA 22 0 (by omega)
      have e11 : ∀ i, N 11 i = M 11 i := fun i => hA 11 i (by omega)
      have hmono := hs.mono (u := t + 1) (by omega)
      unfold trC at hk
      refine sgX0_trace_13 C tr b pl told free t ⟨fun c => absurd c (by rw [e5]; omega), fun c => ⟨fun c2 => ?_, fun c2 => ?_⟩⟩
      · rw [if_neg (by omega)] at hk
        refine ⟨⟨by rw [eF]; exact hf, fun u x y => by rw [e16, e17]; exact hb u x y, hbr, by rw [e5]; omega, by rw [eF, e5, ← f3]; exact hs, fun u td x y z => by rw [eF] at *; rw [e22, e16, e17]; exact hTab u td x y z⟩, ?_, ?_⟩
        · intro c3
          rw [eF, e16, e17, e5, ← f3, ← f0, hf9] at c3
          rw [if_pos c3] at hk
          refine ⟨fun _ => ⟨by omega, ih (t + 1) free told N (by omega) (by omega) hA hP hmono hk⟩, fun z => absurd rfl z⟩
        · intro p v p0 p1 v0 v1 c3
          rw [eF, e16, e17, e5, ← f3, ← f0, hf9] at c3
          rw [e5] at p1
          rw [e11] at v1
          have wv := wf_pv hf p0 (show p < F 3 0 0 by omega) v0 (by rw [f11]; omega)
          rw [c3, if_neg (by omega)] at hk
          have d1 : (3 * p + v) / 3 = p := by omega
          have d2 : (3 * p + v) % 3 = v := by omega
          rw [d1, d2] at hk
          have sp := fiP_spec hf (S := M 16 tr) (Q := M 17 tr) (B := b) (f := f) (t := t) (set := told) (F 3 0 0).toNat 0 (by omega) (by omega)
          rw [c3] at sp
          rcases sp with z | ⟨q, k, z1, z2, z3, z4, z5, z6, z7⟩
          · exact absurd z (by omega)
          · have wq := wf_p hf (p := q) (by omega) z2
            have eq1 : q = p := by omega
            have ek1 : k = v := by omega
            rw [eq1, ek1] at z6
            have oe := own_end z6.2.2
            have hso := sub_or hf hs (u := t + 1) (by omega) p0 (show p < F 3 0 0 by omega) (all_bit (by omega) (by omega) p0 (by omega)) (by omega)
            have n19 : up3 (up3 N 19 pl p v) 20 pl p t 19 pl = setP (N 19 pl) p v := put_19 N pl p v t
            have n20 : up3 (up3 N 19 pl p v) 20 pl p t 20 pl = setP (N 20 pl) p t := put_20 N pl p v t
            have hA2 := hA.tr (AgP.up N pl p v t)
            have hvp : up3 (up3 N 19 pl p v) 20 pl p t 19 pl p = v := by rw [n19]; exact if_pos rfl
            refine ⟨fun z => absurd z (by omega), fun _ y ey => ⟨by omega, ?_⟩⟩
            rw [hvp]
            have eF2 : cFilm (up3 (up3 N 19 pl p v) 20 pl p t) 1 = F := by rw [hA2.film 1]; exact hF
            have g5 : up3 (up3 N 19 pl p v) 20 pl p t 5 1 = M 5 1 := hA2 5 1 (by omega)
            have g11 : ∀ i, up3 (up3 N 19 pl p v) 20 pl p t 11 i = M 11 i := fun i => hA2 11 i (by omega)
            refine ⟨⟨by rw [eF2]; exact hf, by rw [g5]; omega, by rw [g11]; omega, by rw [g5]; omega, hbr⟩, ?_⟩
            rw [eF2]
            refine ⟨by omega, ?_⟩
            rw [ey]
            refine ih (t + 1) _ _ _ (by omega) (by omega) hA2 ?_ hso ?_
            · rw [n19, n20]
              exact PlK_put hP (by omega) (by rw [f11]; omega) t0 oe.1
            · rw [n19, n20]
              exact hk
      · rw [if_pos (by omega)] at hk
        exact ⟨by omega, ih (t + 1) free told N (by omega) (by omega) hA hP hmono hk⟩
  refine sgX0_trace_0 C tr b pl ?_
  have pe : PlEq (filM (filM M 19 pl 7 (-4)) 20 pl 7 (-4) 19 pl) (filM (filM M 19 pl 7 (-4)) 20 pl 7 (-4) 20 pl) (fun _ => -4) (fun _ => -4) := fun q a c => ⟨clr_19 M pl a c, clr_20 M pl a c⟩
  refine loop (M 5 1 0).toNat 0 0 0 _ (by omega) (by omega) (clr_ag M pl) (fun q a c => Or.inl (pe q a c)) ⟨⟨by omega, by rw [f3]; omega⟩, fun k _ _ hk => by rw [bit_0] at hk; cases hk⟩ ?_
  intro M' a1 a2 a3
  refine hk M' a1 a2 (a3.tr ?_)
  rw [f0]
  exact trC_eq _ _ _ _ _ _ _ _ _ _ _ _ _ pe
end
section
/-! ===== Film, Picture: what their methods do to a film ===== -/
def sF0 (F : Film) : Film := fun t a b => match t with
  | 0 => 0
  | 1 => 1
  | 2 => 0
  | 3 => 0
  | 4 => if a = 0 then 2 else if a = 1 then 1 else if a = 2 then 3 else if a = 3 then 1 else F 4 a b
  | t => F t a b
def sFT (F : Film) (x : Int) : Film := fun t a b => if t = 0 then x else F t a b
def sFB (F : Film) (x : Int) : Film := fun t a b => if t = 1 then x else F t a b
def sFS (F : Film) (k x y : Int) : Film := fun t a b => if t = 2 then F 2 0 0 + 1 else if t = 5 ∧ a = F 2 0 0 then k else if t = 6 ∧ a = F 2 0 0 then x else if t = 7 ∧ a = F 2 0 0 then y else F t a b
def sFN (F : Film) (j i : Int) : Film := fun t a b => if t = 12 ∧ a = j then i else F t a b
/-- one version more of a picture -/
def sFV (F : Film) (p l w : Int) : Film := fun t a b => if t = 13 ∧ a = p ∧ b = F 11 p 0 then l else if t = 14 ∧ a = p ∧ b = F 11 p 0 then w else if t = 11 ∧ a = p then F 11 p 0 + 1 else F t a b
/-- a picture begun anew, without versions -/
def sFP (F : Film) (p x y z : Int) : Film := fun t a b => if t = 8 ∧ a = p then x else if t = 9 ∧ a = p then y else if t = 10 ∧ a = p then z else if t = 12 ∧ a = p then -4 else if t = 11 ∧ a = p then 0 else F t a b
def sFC (F : Film) (n : Int) : Film := fun t a b => if t = 3 then n else F t a b
/-- nothing but a film has changed -/
def AgM (M M' : Mem) (f : Int) : Prop := ∀ r i j, ¬ (((5 ≤ r ∧ r ≤ 9) ∧ i = f) ∨ ((11 ≤ r ∧ r ≤ 13) ∧ 7 * f ≤ i ∧ i < 7 * f + 7)) → M' r i j = M r i j
theorem AgM.rf {M : Mem} {f : Int} : AgM M M f := fun _ _ _ _ => rfl
theorem AgM.tr {M M' M2 : Mem} {f : Int} (h : AgM M M' f) (h2 : AgM M' M2 f) : AgM M M2 f := fun r i j hn => (h2 r i j hn).trans (h r i j hn)
theorem AgM.up1 {M M' : Mem} {f : Int} (h : AgM M M' f) {r : Nat} (hr : 5 ≤ r ∧ r ≤ 9) (j v : Int) : AgM M (up3 M' r f j v) f := by
  intro r' i' j' hn
  rw [← h r' i' j' hn]
  exact if_neg (fun q => hn (Or.inl ⟨by rw [q.1]; exact hr, q.2.1⟩))
theorem AgM.up2 {M M' : Mem} {f : Int} (h : AgM M M' f) {r : Nat} (hr : 11 ≤ r ∧ r ≤ 13) {i : Int} (hi : 7 * f ≤ i ∧ i < 7 * f + 7) (j v : Int) : AgM M (up3 M' r i j v) f := by
  intro r' i' j' hn
  rw [← h r' i' j' hn]
  exact if_neg (fun q => hn (Or.inr ⟨by rw [q.1]; exact hr, by rw [q.2.1]; exact hi⟩))
theorem AgM.reg {M M' : Mem} {f : Int} (h : AgM M M' f) {r : Nat} (hr : r < 5 ∨ 13 < r ∨ r = 10) : M' r = M r := by
  funext i j
  exact h r i j (by omega)
/-- the other film stays -/
theorem AgM.other {M M' : Mem} {f : Int} (h : AgM M M' f) {g : Int} (hg : g ≠ f) : ∀ t a b, (0 ≤ a ∧ a < 7) ∨ t < 8 → cFilm M' g t a b = cFilm M g t a b := by
  intro t a b hab
  unfold cFilm
  split <;> first | rfl | exact h _ _ _ (by omega)
/-! ===== GapTellings$Film.startAnew ===== -/
abbrev rmX1_startAnew : Room := { frames := 0, cells := 0, slots := 0, locals := 0 }
abbrev argX1_startAnew (a : Int) : List PV := [.inr (5, a)]
abbrev CtX1_startAnew (sp : Int → Mem → Kont → Prop) : Prop := Ct yX1_startAnew cX1_startAnew 1 none rmX1_startAnew domC argX1_startAnew (fun a => sp a)
theorem dX1_startAnew_0 : decode cX1_startAnew 0 = .ok (.aload_n 0, 1) := by decide +kernel
theorem dX1_startAnew_1 : decode cX1_startAnew 1 = .ok (.iconst 0, 1) := by decide +kernel
theorem dX1_startAnew_2 : decode cX1_startAnew 2 = .ok (.putfield 31, 3) := by decide +kernel
theorem dX1_startAnew_5 : decode cX1_startAnew 5 = .ok (.aload_n 0, 1) := by decide +kernel
theorem dX1_startAnew_6 : decode cX1_startAnew 6 = .ok (.iconst 1, 1) := by decide +kernel
theorem dX1_startAnew_7 : decode cX1_startAnew 7 = .ok (.putfield 35, 3) := by decide +kernel
theorem dX1_startAnew_10 : decode cX1_startAnew 10 = .ok (.aload_n 0, 1) := by decide +kernel
theorem dX1_startAnew_11 : decode cX1_startAnew 11 = .ok (.iconst 0, 1) := by decide +kernel
theorem dX1_startAnew_12 : decode cX1_startAnew 12 = .ok (.putfield 38, 3) := by decide +kernel
theorem dX1_startAnew_15 : decode cX1_startAnew 15 = .ok (.aload_n 0, 1) := by decide +kernel
theorem dX1_startAnew_16 : decode cX1_startAnew 16 = .ok (.iconst 0, 1) := by decide +kernel
theorem dX1_startAnew_17 : decode cX1_startAnew 17 = .ok (.putfield 41, 3) := by decide +kernel
theorem dX1_startAnew_20 : decode cX1_startAnew 20 = .ok (.aload_n 0, 1) := by decide +kernel
theorem dX1_startAnew_21 : decode cX1_startAnew 21 = .ok (.getfield 9, 3) := by decide +kernel
theorem dX1_startAnew_24 : decode cX1_startAnew 24 = .ok (.iconst 0, 1) := by decide +kernel
theorem dX1_startAnew_25 : decode cX1_startAnew 25 = .ok (.iconst 2, 1) := by decide +kernel
theorem dX1_startAnew_26 : decode cX1_startAnew 26 = .ok (.iastore, 1) := by decide +kernel
theorem dX1_startAnew_27 : decode cX1_startAnew 27 = .ok (.aload_n 0, 1) := by decide +kernel
theorem dX1_startAnew_28 : decode cX1_startAnew 28 = .ok (.getfield 9, 3) := by decide +kernel
theorem dX1_startAnew_31 : decode cX1_startAnew 31 = .ok (.iconst 1, 1) := by decide +kernel
theorem dX1_startAnew_32 : decode cX1_startAnew 32 = .ok (.iconst 1, 1) := by decide +kernel
theorem dX1_startAnew_33 : decode cX1_startAnew 33 = .ok (.iastore, 1) := by decide +kernel
theorem dX1_startAnew_34 : decode cX1_startAnew 34 = .ok (.aload_n 0, 1) := by decide +kernel
theorem dX1_startAnew_35 : decode cX1_startAnew 35 = .ok (.getfield 9, 3) := by decide +kernel
theorem dX1_startAnew_38 : decode cX1_startAnew 38 = .ok (.iconst 2, 1) := by decide +kernel
theorem dX1_startAnew_39 : decode cX1_startAnew 39 = .ok (.iconst 3, 1) := by decide +kernel
theorem dX1_startAnew_40 : decode cX1_startAnew 40 = .ok (.iastore, 1) := by decide +kernel
theorem dX1_startAnew_41 : decode cX1_startAnew 41 = .ok (.aload_n 0, 1) := by decide +kernel
theorem dX1_startAnew_42 : decode cX1_startAnew 42 = .ok (.getfield 9, 3) := by decide +kernel
theorem dX1_startAnew_45 : decode cX1_startAnew 45 = .ok (.iconst 3, 1) := by decide +kernel
theorem dX1_startAnew_46 : decode cX1_startAnew 46 = .ok (.iconst 1, 1) := by decide +kernel
theorem dX1_startAnew_47 : decode cX1_startAnew 47 = .ok (.iastore, 1) := by decide +kernel
theorem dX1_startAnew_48 : decode cX1_startAnew 48 = .ok (.return_, 1) := by decide +kernel
theorem plX1_31 : PL RX1 31 1 0 .int := ⟨_, _, _, rfl, by decide, uwX1, Or.inl (tb_mem (t_in1 (List.mem_of_getElem? (i := 106) (by decide +kernel))) (by decide +kernel)), rfl, by decide +kernel, tyX1, tyX1_ok, nmX1⟩
theorem plX1_35 : PL RX1 35 1 1 .int := ⟨_, _, _, rfl, by decide, uwX1, Or.inl (tb_mem (t_in1 (List.mem_of_getElem? (i := 112) (by decide +kernel))) (by decide +kernel)), rfl, by decide +kernel, tyX1, tyX1_ok, nmX1⟩
theorem plX1_38 : PL RX1 38 1 3 .int := ⟨_, _, _, rfl, by decide, uwX1, Or.inl (tb_mem (t_in1 (List.mem_of_getElem? (i := 119) (by decide +kernel))) (by decide +kernel)), rfl, by decide +kernel, tyX1, tyX1_ok, nmX1⟩
theorem plX1_41 : PL RX1 41 1 7 .int := ⟨_, _, _, rfl, by decide, uwX1, Or.inl (tb_mem (t_in1 (List.mem_of_getElem? (i := 132) (by decide +kernel))) (by decide +kernel)), rfl, by decide +kernel, tyX1, tyX1_ok, nmX1⟩
theorem flX1_9 : FL RX1 9 1 2 := ⟨_, _, _, rfl, by decide, uwX1, Or.inl (tb_mem (t_in1 (List.mem_of_getElem? (i := 116) (by decide +kernel))) (by decide +kernel))⟩
set_option maxHeartbeats 4000000 in
set_option maxRecDepth 20000 in
theorem sgX1_startAnew_0 {κ : Kx} {K : Kont} {M : Mem} (C : Cx κ RX1 cX1_startAnew 1 none rmX1_startAnew domC) (i0 : Int)
    (h :
    ∀ M2 : Mem, M2 = up3 M 5 i0 0 0 →
    ∀ M7 : Mem, M7 = up3 M2 5 i0 1 1 →
    ∀ M12 : Mem, M12 = up3 M7 5 i0 3 0 →
    ∀ M17 : Mem, M17 = up3 M12 5 i0 7 0 →
    ∀ M26 : Mem, M26 = up3 M17 6 i0 0 2 →
    ∀ M33 : Mem, M33 = up3 M26 6 i0 1 1 →
    ∀ M40 : Mem, M40 = up3 M33 6 i0 2 3 →
    ∀ M47 : Mem, M47 = up3 M40 6 i0 3 1 →
    K none M47) : V κ 1 M 0 [some (.inr (5, i0))] [] K := by
  refine v_aload_n C dX1_startAnew_0 rfl ?_
  refine v_iconst C dX1_startAnew_1 (by decide) ?_
  refine v_put C dX1_startAnew_2 plX1_31 rfl (by decide) (by decide) rfl rfl rfl ?_
  refine v_nmM (fun M2 eM2 => ?_)
  replace h := h M2 eM2
  refine v_aload_n C dX1_startAnew_5 rfl ?_
  refine v_iconst C dX1_startAnew_6 (by decide) ?_
  refine v_put C dX1_startAnew_7 plX1_35 rfl (by decide) (by decide) rfl rfl rfl ?_
  refine v_nmM (fun M7 eM7 => ?_)
  replace h := h M7 eM7
  refine v_aload_n C dX1_startAnew_10 rfl ?_
  refine v_iconst C dX1_startAnew_11 (by decide) ?_
  refine v_put C dX1_startAnew_12 plX1_38 rfl (by decide) (by decide) rfl rfl rfl ?_
  refine v_nmM (fun M12 eM12 => ?_)
  replace h := h M12 eM12
  refine v_aload_n C dX1_startAnew_15 rfl ?_
  refine v_iconst C dX1_startAnew_16 (by decide) ?_
  refine v_put C dX1_startAnew_17 plX1_41 rfl (by decide) (by decide) rfl rfl rfl ?_
  refine v_nmM (fun M17 eM17 => ?_)
  replace h := h M17 eM17
  refine v_aload_n C dX1_startAnew_20 rfl ?_
  refine v_get C dX1_startAnew_21 flX1_9 rfl (by decide) (by decide) (w := .inr (6, i0)) rfl ?_
  refine v_iconst C dX1_startAnew_24 (by decide) ?_
  refine v_iconst C dX1_startAnew_25 (by decide) ?_
  refine v_iast C dX1_startAnew_26 rfl (by decide) (by decide) ?_
  refine v_nmM (fun M26 eM26 => ?_)
  replace h := h M26 eM26
  refine v_aload_n C dX1_startAnew_27 rfl ?_
  refine v_get C dX1_startAnew_28 flX1_9 rfl (by decide) (by decide) (w := .inr (6, i0)) rfl ?_
  refine v_iconst C dX1_startAnew_31 (by decide) ?_
  refine v_iconst C dX1_startAnew_32 (by decide) ?_
  refine v_iast C dX1_startAnew_33 rfl (by decide) (by decide) ?_
  refine v_nmM (fun M33 eM33 => ?_)
  replace h := h M33 eM33
  refine v_aload_n C dX1_startAnew_34 rfl ?_
  refine v_get C dX1_startAnew_35 flX1_9 rfl (by decide) (by decide) (w := .inr (6, i0)) rfl ?_
  refine v_iconst C dX1_startAnew_38 (by decide) ?_
  refine v_iconst C dX1_startAnew_39 (by decide) ?_
  refine v_iast C dX1_startAnew_40 rfl (by decide) (by decide) ?_
  refine v_nmM (fun M40 eM40 => ?_)
  replace h := h M40 eM40
  refine v_aload_n C dX1_startAnew_41 rfl ?_
  refine v_get C dX1_startAnew_42 flX1_9 rfl (by decide) (by decide) (w := .inr (6, i0)) rfl ?_
  refine v_iconst C dX1_startAnew_45 (by decide) ?_
  refine v_iconst C dX1_startAnew_46 (by decide) ?_
  refine v_iast C dX1_startAnew_47 rfl (by decide) (by decide) ?_
  refine v_nmM (fun M47 eM47 => ?_)
  replace h := h M47 eM47
  exact v_vret C dX1_startAnew_48 h
abbrev spX1_startAnew (f : Int) (M : Mem) (K : Kont) : Prop := ∀ M', AgM M M' f → cFilm M' f = sF0 (cFilm M f) → K none M'
theorem ctX1_startAnew : CtX1_startAnew spX1_startAnew := by
  refine ct_of (by decide) dmC (fun _ => Nat.le_of_ble_eq_true rfl) ?_
  intro κ f M K C oM h
  refine sgX1_startAnew_0 C f (fun M1 e1 M2 e2 M3 e3 M4 e4 M5 e5 M6 e6 M7 e7 M8 e8 => h M8 ?_ ?_)
  · rw [e8, e7, e6, e5, e4, e3, e2, e1]
    exact (((((((AgM.rf.up1 (by decide) _ _).up1 (by decide) _ _).up1 (by decide) _ _).up1 (by decide) _ _).up1 (by decide) _ _).up1 (by decide) _ _).up1 (by decide) _ _).up1 (by decide) _ _
  · funext t a b
    rw [e8, e7, e6, e5, e4, e3, e2, e1]
    unfold cFilm sF0
    split <;> simp [up3]
    by_cases h3 : a = 3
    · subst h3; simp
    · by_cases h2 : a = 2
      · subst h2; simp
      · by_cases h1 : a = 1
        · subst h1; simp
        · simp [h1, h2, h3]
/-! ===== GapTellings$Film.addSound ===== -/
abbrev rmX1_addSound : Room := { frames := 0, cells := 0, slots := 0, locals := 0 }
abbrev argX1_addSound (a : Int × Int × Int × Int) : List PV := [.inr (5, a.1), .inl a.2.1, .inl a.2.2.1, .inl a.2.2.2]
abbrev CtX1_addSound (sp : Int → Int → Int → Int → Mem → Kont → Prop) : Prop := Ct yX1_addSound cX1_addSound 4 none rmX1_addSound domC argX1_addSound (fun a => sp a.1 a.2.1 a.2.2.1 a.2.2.2)
theorem dX1_addSound_0 : decode cX1_addSound 0 = .ok (.aload_n 0, 1) := by decide +kernel
theorem dX1_addSound_1 : decode cX1_addSound 1 = .ok (.getfield 38, 3) := by decide +kernel
theorem dX1_addSound_4 : decode cX1_addSound 4 = .ok (.bipush 12, 2) := by decide +kernel
theorem dX1_addSound_6 : decode cX1_addSound 6 = .ok (.if_icmp .ge 43, 3) := by decide +kernel
theorem dX1_addSound_9 : decode cX1_addSound 9 = .ok (.aload_n 0, 1) := by decide +kernel
theorem dX1_addSound_10 : decode cX1_addSound 10 = .ok (.getfield 15, 3) := by decide +kernel
theorem dX1_addSound_13 : decode cX1_addSound 13 = .ok (.aload_n 0, 1) := by decide +kernel
theorem dX1_addSound_14 : decode cX1_addSound 14 = .ok (.getfield 38, 3) := by decide +kernel
theorem dX1_addSound_17 : decode cX1_addSound 17 = .ok (.iload_n 1, 1) := by decide +kernel
theorem dX1_addSound_18 : decode cX1_addSound 18 = .ok (.iastore, 1) := by decide +kernel
theorem dX1_addSound_19 : decode cX1_addSound 19 = .ok (.aload_n 0, 1) := by decide +kernel
theorem dX1_addSound_20 : decode cX1_addSound 20 = .ok (.getfield 18, 3) := by decide +kernel
theorem dX1_addSound_23 : decode cX1_addSound 23 = .ok (.aload_n 0, 1) := by decide +kernel
theorem dX1_addSound_24 : decode cX1_addSound 24 = .ok (.getfield 38, 3) := by decide +kernel
theorem dX1_addSound_27 : decode cX1_addSound 27 = .ok (.iload_n 2, 1) := by decide +kernel
theorem dX1_addSound_28 : decode cX1_addSound 28 = .ok (.iastore, 1) := by decide +kernel
theorem dX1_addSound_29 : decode cX1_addSound 29 = .ok (.aload_n 0, 1) := by decide +kernel
theorem dX1_addSound_30 : decode cX1_addSound 30 = .ok (.getfield 21, 3) := by decide +kernel
theorem dX1_addSound_33 : decode cX1_addSound 33 = .ok (.aload_n 0, 1) := by decide +kernel
theorem dX1_addSound_34 : decode cX1_addSound 34 = .ok (.getfield 38, 3) := by decide +kernel
theorem dX1_addSound_37 : decode cX1_addSound 37 = .ok (.iload_n 3, 1) := by decide +kernel
theorem dX1_addSound_38 : decode cX1_addSound 38 = .ok (.iastore, 1) := by decide +kernel
theorem dX1_addSound_39 : decode cX1_addSound 39 = .ok (.aload_n 0, 1) := by decide +kernel
theorem dX1_addSound_40 : decode cX1_addSound 40 = .ok (.dup, 1) := by decide +kernel
theorem dX1_addSound_41 : decode cX1_addSound 41 = .ok (.getfield 38, 3) := by decide +kernel
theorem dX1_addSound_44 : decode cX1_addSound 44 = .ok (.iconst 1, 1) := by decide +kernel
theorem dX1_addSound_45 : decode cX1_addSound 45 = .ok (.iadd, 1) := by decide +kernel
theorem dX1_addSound_46 : decode cX1_addSound 46 = .ok (.putfield 38, 3) := by decide +kernel
theorem dX1_addSound_49 : decode cX1_addSound 49 = .ok (.return_, 1) := by decide +kernel
theorem flX1_38 : FL RX1 38 1 3 := ⟨_, _, _, rfl, by decide, uwX1, Or.inl (tb_mem (t_in1 (List.mem_of_getElem? (i := 119) (by decide +kernel))) (by decide +kernel))⟩
theorem flX1_15 : FL RX1 15 1 4 := ⟨_, _, _, rfl, by decide, uwX1, Or.inl (tb_mem (t_in1 (List.mem_of_getElem? (i := 123) (by decide +kernel))) (by decide +kernel))⟩
theorem flX1_18 : FL RX1 18 1 5 := ⟨_, _, _, rfl, by decide, uwX1, Or.inl (tb_mem (t_in1 (List.mem_of_getElem? (i := 125) (by decide +kernel))) (by decide +kernel))⟩
theorem flX1_21 : FL RX1 21 1 6 := ⟨_, _, _, rfl, by decide, uwX1, Or.inl (tb_mem (t_in1 (List.mem_of_getElem? (i := 128) (by decide +kernel))) (by decide +kernel))⟩
set_option maxHeartbeats 4000000 in
set_option maxRecDepth 20000 in
theorem sgX1_addSound_0 {κ : Kx} {K : Kont} {M : Mem} (C : Cx κ RX1 cX1_addSound 4 none rmX1_addSound domC) (i0 : Int) (x1 : Int) (x2 : Int) (x3 : Int)
    (h :
    ((12 ≤ (M 5 i0 3) →
      K none M) ∧
     (¬ (12 ≤ (M 5 i0 3)) →
      (0 ≤ (M 5 i0 3) ∧ (M 5 i0 3) < 12) ∧
      ∀ M18 : Mem, M18 = up3 M 7 i0 (M 5 i0 3) x1 →
      (0 ≤ (M18 5 i0 3) ∧ (M18 5 i0 3) < 12) ∧
      ∀ M28 : Mem, M28 = up3 M18 8 i0 (M18 5 i0 3) x2 →
      (0 ≤ (M28 5 i0 3) ∧ (M28 5 i0 3) < 12) ∧
      ∀ M38 : Mem, M38 = up3 M28 9 i0 (M28 5 i0 3) x3 →
      inR ((M38 5 i0 3) + 1) ∧
      ∀ M46 : Mem, M46 = up3 M38 5 i0 3 ((M38 5 i0 3) + 1) →
      K none M46))) : V κ 4 M 0 [some (.inr (5, i0)), some (.inl x1), some (.inl x2), some (.inl x3)] [] K := by
  refine v_aload_n C dX1_addSound_0 rfl ?_
  refine v_get C dX1_addSound_1 flX1_38 rfl (by decide) (by decide) (w := .inl (M 5 i0 3)) rfl ?_
  refine v_bipush C dX1_addSound_4 (by decide) (by decide) ?_
  refine v_icmp C dX1_addSound_6 (tgt := 49) (by decide) (P := 12 ≤ (M 5 i0 3)) rfl (fun c6 => ?_) (fun c6 => ?_)
  · replace h := h.1 c6
    exact v_vret C dX1_addSound_49 h
  · replace h := h.2 c6
    refine v_aload_n C dX1_addSound_9 rfl ?_
    refine v_get C dX1_addSound_10 flX1_15 rfl (by decide) (by decide) (w := .inr (7, i0)) rfl ?_
    refine v_aload_n C dX1_addSound_13 rfl ?_
    refine v_get C dX1_addSound_14 flX1_38 rfl (by decide) (by decide) (w := .inl (M 5 i0 3)) rfl ?_
    refine v_iload_n C dX1_addSound_17 rfl ?_
    refine v_iast C dX1_addSound_18 rfl h.1.1 h.1.2 ?_
    replace h := h.2
    refine v_nmM (fun M18 eM18 => ?_)
    replace h := h M18 eM18
    refine v_aload_n C dX1_addSound_19 rfl ?_
    refine v_get C dX1_addSound_20 flX1_18 rfl (by decide) (by decide) (w := .inr (8, i0)) rfl ?_
    refine v_aload_n C dX1_addSound_23 rfl ?_
    refine v_get C dX1_addSound_24 flX1_38 rfl (by decide) (by decide) (w := .inl (M18 5 i0 3)) rfl ?_
    refine v_iload_n C dX1_addSound_27 rfl ?_
    refine v_iast C dX1_addSound_28 rfl h.1.1 h.1.2 ?_
    replace h := h.2
    refine v_nmM (fun M28 eM28 => ?_)
    replace h := h M28 eM28
    refine v_aload_n C dX1_addSound_29 rfl ?_
    refine v_get C dX1_addSound_30 flX1_21 rfl (by decide) (by decide) (w := .inr (9, i0)) rfl ?_
    refine v_aload_n C dX1_addSound_33 rfl ?_
    refine v_get C dX1_addSound_34 flX1_38 rfl (by decide) (by decide) (w := .inl (M28 5 i0 3)) rfl ?_
    refine v_iload_n C dX1_addSound_37 rfl ?_
    refine v_iast C dX1_addSound_38 rfl h.1.1 h.1.2 ?_
    replace h := h.2
    refine v_nmM (fun M38 eM38 => ?_)
    replace h := h M38 eM38
    refine v_aload_n C dX1_addSound_39 rfl ?_
    refine v_dup C dX1_addSound_40 ?_
    refine v_get C dX1_addSound_41 flX1_38 rfl (by decide) (by decide) (w := .inl (M38 5 i0 3)) rfl ?_
    refine v_iconst C dX1_addSound_44 (by decide) ?_
    refine v_iadd C dX1_addSound_45 h.1 ?_
    replace h := h.2
    refine v_put C dX1_addSound_46 plX1_38 rfl (by decide) (by decide) rfl rfl rfl ?_
    refine v_nmM (fun M46 eM46 => ?_)
    replace h := h M46 eM46
    exact v_vret C dX1_addSound_49 h
abbrev spX1_addSound (f k x y : Int) (M : Mem) (K : Kont) : Prop := (0 ≤ M 5 f 3 ∧ M 5 f 3 < 12) ∧ ∀ M', AgM M M' f → cFilm M' f = sFS (cFilm M f) k x y → K none M'
theorem ctX1_addSound : CtX1_addSound spX1_addSound := by
  refine ct_of (by decide) dmC (fun _ => Nat.le_of_ble_eq_true rfl) ?_
  intro κ a M K C oM h
  obtain ⟨f, k, x, y⟩ := a
  dsimp only [spX1_addSound] at h
  obtain ⟨hn, hk⟩ := h
  refine sgX1_addSound_0 C f k x y ⟨fun c => absurd c (by omega), fun c => ⟨by omega, fun M1 e1 => ?_⟩⟩
  have n1 : M1 5 f 3 = M 5 f 3 := by rw [e1, up3_r _ _ _ _ _ (by decide)]
  refine ⟨by omega, fun M2 e2 => ?_⟩
  have n2 : M2 5 f 3 = M 5 f 3 := by rw [e2, up3_r _ _ _ _ _ (by decide), n1]
  refine ⟨by omega, fun M3 e3 => ?_⟩
  have n3 : M3 5 f 3 = M 5 f 3 := by rw [e3, up3_r _ _ _ _ _ (by decide), n2]
  refine ⟨by omega, fun M4 e4 => hk M4 ?_ ?_⟩
  · rw [e4, e3, e2, e1]
    exact (((AgM.rf.up1 (by decide) _ _).up1 (by decide) _ _).up1 (by decide) _ _).up1 (by decide) _ _
  · funext t a b
    rw [e4, n3, e3, n2, e2, n1, e1]
    unfold cFilm sFS
    split <;> simp [up3]
    simp_all
/-! ===== GapTellings$Film.dropSound ===== -/
abbrev rmX1_dropSound : Room := { frames := 0, cells := 0, slots := 0, locals := 0 }
abbrev argX1_dropSound (a : Int × Int) : List PV := [.inr (5, a.1), .inl a.2]
abbrev CtX1_dropSound (sp : Int → Int → Mem → Kont → Prop) : Prop := Ct yX1_dropSound cX1_dropSound 3 none rmX1_dropSound domC argX1_dropSound (fun a => sp a.1 a.2)
theorem dX1_dropSound_0 : decode cX1_dropSound 0 = .ok (.aload_n 0, 1) := by decide +kernel
theorem dX1_dropSound_1 : decode cX1_dropSound 1 = .ok (.dup, 1) := by decide +kernel
theorem dX1_dropSound_2 : decode cX1_dropSound 2 = .ok (.getfield 38, 3) := by decide +kernel
theorem dX1_dropSound_5 : decode cX1_dropSound 5 = .ok (.iconst 1, 1) := by decide +kernel
theorem dX1_dropSound_6 : decode cX1_dropSound 6 = .ok (.isub, 1) := by decide +kernel
theorem dX1_dropSound_7 : decode cX1_dropSound 7 = .ok (.putfield 38, 3) := by decide +kernel
theorem dX1_dropSound_10 : decode cX1_dropSound 10 = .ok (.iload_n 1, 1) := by decide +kernel
theorem dX1_dropSound_11 : decode cX1_dropSound 11 = .ok (.istore_n 2, 1) := by decide +kernel
theorem dX1_dropSound_12 : decode cX1_dropSound 12 = .ok (.iload_n 2, 1) := by decide +kernel
theorem dX1_dropSound_13 : decode cX1_dropSound 13 = .ok (.aload_n 0, 1) := by decide +kernel
theorem dX1_dropSound_14 : decode cX1_dropSound 14 = .ok (.getfield 38, 3) := by decide +kernel
theorem dX1_dropSound_17 : decode cX1_dropSound 17 = .ok (.if_icmp .ge 51, 3) := by decide +kernel
theorem dX1_dropSound_20 : decode cX1_dropSound 20 = .ok (.aload_n 0, 1) := by decide +kernel
theorem dX1_dropSound_21 : decode cX1_dropSound 21 = .ok (.getfield 15, 3) := by decide +kernel
theorem dX1_dropSound_24 : decode cX1_dropSound 24 = .ok (.iload_n 2, 1) := by decide +kernel
theorem dX1_dropSound_25 : decode cX1_dropSound 25 = .ok (.aload_n 0, 1) := by decide +kernel
theorem dX1_dropSound_26 : decode cX1_dropSound 26 = .ok (.getfield 15, 3) := by decide +kernel
theorem dX1_dropSound_29 : decode cX1_dropSound 29 = .ok (.iload_n 2, 1) := by decide +kernel
theorem dX1_dropSound_30 : decode cX1_dropSound 30 = .ok (.iconst 1, 1) := by decide +kernel
theorem dX1_dropSound_31 : decode cX1_dropSound 31 = .ok (.iadd, 1) := by decide +kernel
theorem dX1_dropSound_32 : decode cX1_dropSound 32 = .ok (.iaload, 1) := by decide +kernel
theorem dX1_dropSound_33 : decode cX1_dropSound 33 = .ok (.iastore, 1) := by decide +kernel
theorem dX1_dropSound_34 : decode cX1_dropSound 34 = .ok (.aload_n 0, 1) := by decide +kernel
theorem dX1_dropSound_35 : decode cX1_dropSound 35 = .ok (.getfield 18, 3) := by decide +kernel
theorem dX1_dropSound_38 : decode cX1_dropSound 38 = .ok (.iload_n 2, 1) := by decide +kernel
theorem dX1_dropSound_39 : decode cX1_dropSound 39 = .ok (.aload_n 0, 1) := by decide +kernel
theorem dX1_dropSound_40 : decode cX1_dropSound 40 = .ok (.getfield 18, 3) := by decide +kernel
theorem dX1_dropSound_43 : decode cX1_dropSound 43 = .ok (.iload_n 2, 1) := by decide +kernel
theorem dX1_dropSound_44 : decode cX1_dropSound 44 = .ok (.iconst 1, 1) := by decide +kernel
theorem dX1_dropSound_45 : decode cX1_dropSound 45 = .ok (.iadd, 1) := by decide +kernel
theorem dX1_dropSound_46 : decode cX1_dropSound 46 = .ok (.iaload, 1) := by decide +kernel
theorem dX1_dropSound_47 : decode cX1_dropSound 47 = .ok (.iastore, 1) := by decide +kernel
theorem dX1_dropSound_48 : decode cX1_dropSound 48 = .ok (.aload_n 0, 1) := by decide +kernel
theorem dX1_dropSound_49 : decode cX1_dropSound 49 = .ok (.getfield 21, 3) := by decide +kernel
theorem dX1_dropSound_52 : decode cX1_dropSound 52 = .ok (.iload_n 2, 1) := by decide +kernel
theorem dX1_dropSound_53 : decode cX1_dropSound 53 = .ok (.aload_n 0, 1) := by decide +kernel
theorem dX1_dropSound_54 : decode cX1_dropSound 54 = .ok (.getfield 21, 3) := by decide +kernel
theorem dX1_dropSound_57 : decode cX1_dropSound 57 = .ok (.iload_n 2, 1) := by decide +kernel
theorem dX1_dropSound_58 : decode cX1_dropSound 58 = .ok (.iconst 1, 1) := by decide +kernel
theorem dX1_dropSound_59 : decode cX1_dropSound 59 = .ok (.iadd, 1) := by decide +kernel
theorem dX1_dropSound_60 : decode cX1_dropSound 60 = .ok (.iaload, 1) := by decide +kernel
theorem dX1_dropSound_61 : decode cX1_dropSound 61 = .ok (.iastore, 1) := by decide +kernel
theorem dX1_dropSound_62 : decode cX1_dropSound 62 = .ok (.iinc 2 1, 3) := by decide +kernel
theorem dX1_dropSound_65 : decode cX1_dropSound 65 = .ok (.goto (-53), 3) := by decide +kernel
theorem dX1_dropSound_68 : decode cX1_dropSound 68 = .ok (.return_, 1) := by decide +kernel
set_option maxHeartbeats 4000000 in
set_option maxRecDepth 20000 in
theorem sgX1_dropSound_0 {κ : Kx} {K : Kont} {M : Mem} (C : Cx κ RX1 cX1_dropSound 3 none rmX1_dropSound domC) (i0 : Int) (x1 : Int)
    (h :
    inR ((M 5 i0 3) - 1) ∧
    ∀ M7 : Mem, M7 = up3 M 5 i0 3 ((M 5 i0 3) - 1) →
    V κ 3 M7 12 [some (.inr (5, i0)), none, some (.inl x1)] [] K) : V κ 3 M 0 [some (.inr (5, i0)), some (.inl x1), none] [] K := by
  refine v_aload_n C dX1_dropSound_0 rfl ?_
  refine v_dup C dX1_dropSound_1 ?_
  refine v_get C dX1_dropSound_2 flX1_38 rfl (by decide) (by decide) (w := .inl (M 5 i0 3)) rfl ?_
  refine v_iconst C dX1_dropSound_5 (by decide) ?_
  refine v_isub C dX1_dropSound_6 h.1 ?_
  replace h := h.2
  refine v_put C dX1_dropSound_7 plX1_38 rfl (by decide) (by decide) rfl rfl rfl ?_
  refine v_nmM (fun M7 eM7 => ?_)
  replace h := h M7 eM7
  refine v_iload_n C dX1_dropSound_10 rfl ?_
  refine v_istore_n C dX1_dropSound_11 (by decide) (Nat.le_of_ble_eq_true rfl) (lv' := [some (.inr (5, i0)), some (.inl x1), some (.inl x1)]) rfl ?_
  refine v_weak [some (.inr (5, i0)), none, some (.inl x1)] ⟨rfl, rfl, trivial⟩ ?_
  exact h
set_option maxHeartbeats 4000000 in
set_option maxRecDepth 20000 in
theorem sgX1_dropSound_12 {κ : Kx} {K : Kont} {M : Mem} (C : Cx κ RX1 cX1_dropSound 3 none rmX1_dropSound domC) (i0 : Int) (x2 : Int)
    (h :
    (((M 5 i0 3) ≤ x2 →
      K none M) ∧
     (¬ ((M 5 i0 3) ≤ x2) →
      inR (x2 + 1) ∧
      (0 ≤ (x2 + 1) ∧ (x2 + 1) < 12) ∧
      (0 ≤ x2 ∧ x2 < 12) ∧
      ∀ M33 : Mem, M33 = up3 M 7 i0 x2 (M 7 i0 (x2 + 1)) →
      inR (x2 + 1) ∧
      (0 ≤ (x2 + 1) ∧ (x2 + 1) < 12) ∧
      (0 ≤ x2 ∧ x2 < 12) ∧
      ∀ M47 : Mem, M47 = up3 M33 8 i0 x2 (M33 8 i0 (x2 + 1)) →
      inR (x2 + 1) ∧
      (0 ≤ (x2 + 1) ∧ (x2 + 1) < 12) ∧
      (0 ≤ x2 ∧ x2 < 12) ∧
      ∀ M61 : Mem, M61 = up3 M47 9 i0 x2 (M47 9 i0 (x2 + 1)) →
      inR (x2 + 1) ∧
      V κ 3 M61 12 [some (.inr (5, i0)), none, some (.inl (x2 + 1))] [] K))) : V κ 3 M 12 [some (.inr (5, i0)), none, some (.inl x2)] [] K := by
  refine v_iload_n C dX1_dropSound_12 rfl ?_
  refine v_aload_n C dX1_dropSound_13 rfl ?_
  refine v_get C dX1_dropSound_14 flX1_38 rfl (by decide) (by decide) (w := .inl (M 5 i0 3)) rfl ?_
  refine v_icmp C dX1_dropSound_17 (tgt := 68) (by decide) (P := (M 5 i0 3) ≤ x2) rfl (fun c17 => ?_) (fun c17 => ?_)
  · replace h := h.1 c17
    exact v_vret C dX1_dropSound_68 h
  · replace h := h.2 c17
    refine v_aload_n C dX1_dropSound_20 rfl ?_
    refine v_get C dX1_dropSound_21 flX1_15 rfl (by decide) (by decide) (w := .inr (7, i0)) rfl ?_
    refine v_iload_n C dX1_dropSound_24 rfl ?_
    refine v_aload_n C dX1_dropSound_25 rfl ?_
    refine v_get C dX1_dropSound_26 flX1_15 rfl (by decide) (by decide) (w := .inr (7, i0)) rfl ?_
    refine v_iload_n C dX1_dropSound_29 rfl ?_
    refine v_iconst C dX1_dropSound_30 (by decide) ?_
    refine v_iadd C dX1_dropSound_31 h.1 ?_
    replace h := h.2
    refine v_iald C dX1_dropSound_32 rfl h.1.1 h.1.2 ?_
    replace h := h.2
    refine v_iast C dX1_dropSound_33 rfl h.1.1 h.1.2 ?_
    replace h := h.2
    refine v_nmM (fun M33 eM33 => ?_)
    replace h := h M33 eM33
    refine v_aload_n C dX1_dropSound_34 rfl ?_
    refine v_get C dX1_dropSound_35 flX1_18 rfl (by decide) (by decide) (w := .inr (8, i0)) rfl ?_
    refine v_iload_n C dX1_dropSound_38 rfl ?_
    refine v_aload_n C dX1_dropSound_39 rfl ?_
    refine v_get C dX1_dropSound_40 flX1_18 rfl (by decide) (by decide) (w := .inr (8, i0)) rfl ?_
    refine v_iload_n C dX1_dropSound_43 rfl ?_
    refine v_iconst C dX1_dropSound_44 (by decide) ?_
    refine v_iadd C dX1_dropSound_45 h.1 ?_
    replace h := h.2
    refine v_iald C dX1_dropSound_46 rfl h.1.1 h.1.2 ?_
    replace h := h.2
    refine v_iast C dX1_dropSound_47 rfl h.1.1 h.1.2 ?_
    replace h := h.2
    refine v_nmM (fun M47 eM47 => ?_)
    replace h := h M47 eM47
    refine v_aload_n C dX1_dropSound_48 rfl ?_
    refine v_get C dX1_dropSound_49 flX1_21 rfl (by decide) (by decide) (w := .inr (9, i0)) rfl ?_
    refine v_iload_n C dX1_dropSound_52 rfl ?_
    refine v_aload_n C dX1_dropSound_53 rfl ?_
    refine v_get C dX1_dropSound_54 flX1_21 rfl (by decide) (by decide) (w := .inr (9, i0)) rfl ?_
    refine v_iload_n C dX1_dropSound_57 rfl ?_
    refine v_iconst C dX1_dropSound_58 (by decide) ?_
    refine v_iadd C dX1_dropSound_59 h.1 ?_
    replace h := h.2
    refine v_iald C dX1_dropSound_60 rfl h.1.1 h.1.2 ?_
    replace h := h.2
    refine v_iast C dX1_dropSound_61 rfl h.1.1 h.1.2 ?_
    replace h := h.2
    refine v_nmM (fun M61 eM61 => ?_)
    replace h := h M61 eM61
    refine v_iinc C dX1_dropSound_62 (by decide) rfl h.1 (lv' := [some (.inr (5, i0)), none, some (.inl (x2 + 1))]) rfl ?_
    replace h := h.2
    refine v_goto C dX1_dropSound_65 (tgt := 12) (by decide) ?_
    refine v_weak [some (.inr (5, i0)), none, some (.inl (x2 + 1))] ⟨rfl, rfl, trivial⟩ ?_
    exact h
def dpF (F : Film) (s : Int) : Film := fun t a b => if t = 2 then F 2 0 0 - 1 else if (t = 5 ∨ t = 6 ∨ t = 7) ∧ s ≤ a ∧ a < F 2 0 0 - 1 then F t (a + 1) b else F t a b
abbrev spX1_dropSound (f s : Int) (M : Mem) (K : Kont) : Prop := (0 ≤ s ∧ s < M 5 f 3 ∧ M 5 f 3 ≤ 12) ∧ ∀ M', AgM M M' f → cFilm M' f = dpF (cFilm M f) s → K none M'
theorem ctX1_dropSound : CtX1_dropSound spX1_dropSound := by
  refine ct_of (by decide) dmC (fun _ => Nat.le_of_ble_eq_true rfl) ?_
  intro κ a M K C oM h
  obtain ⟨f, s⟩ := a
  dsimp only [spX1_dropSound] at h
  obtain ⟨hn, hk⟩ := h
  have loop : ∀ (n : Nat) (x : Int) (N : Mem), s ≤ x → x + n = M 5 f 3 - 1 → AgM M N f → N 5 f 3 = M 5 f 3 - 1 → (∀ r j, r ≠ 7 → r ≠ 8 → r ≠ 9 → ¬ (r = 5 ∧ j = 3) → N r f j = M r f j) → (∀ i, ∀ r, 11 ≤ r → N r i = M r i) → (∀ r a, r = 7 ∨ r = 8 ∨ r = 9 → N r f a = if s ≤ a ∧ a < x then M r f (a + 1) else M r f a) →
      V κ 3 N 12 [some (.inr (5, f)), none, some (.inl x)] [] K := by
    intro n
    induction n with
    | zero =>
      intro x N hx hn2 hA h5 ho h11 hr
      refine sgX1_dropSound_12 C f x ⟨fun c => hk N hA ?_, fun c => absurd (by omega) c⟩
      have ex : x = M 5 f 3 - 1 := by omega
      subst ex
      funext t a b
      unfold cFilm dpF
      split
      · simp [ho 5 0 (by decide) (by decide) (by decide) (by decide)]
      · simp [ho 5 1 (by decide) (by decide) (by decide) (by decide)]
      · simp [h5]
      · simp [ho 5 7 (by decide) (by decide) (by decide) (by decide)]
      · simp [ho 6 a (by decide) (by decide) (by decide) (fun z => absurd z.1 (by decide))]
      · simp [hr 7 a (by decide)]
      · simp [hr 8 a (by decide)]
      · simp [hr 9 a (by decide)]
      all_goals first | (simp [h11]; done) | simp_all
    | succ n ih =>
      intro x N hx hn2 hA h5 ho h11 hr
      refine sgX1_dropSound_12 C f x ⟨fun c => absurd c (by omega), fun c => ⟨by omega, by omega, by omega, fun N1 e1 => ⟨by omega, by omega, by omega, fun N2 e2 => ⟨by omega, by omega, by omega, fun N3 e3 => ⟨by omega, ?_⟩⟩⟩⟩⟩
      have a8 : N1 8 f (x + 1) = N 8 f (x + 1) := by rw [e1, up3_r _ _ _ _ _ (by decide)]
      have a9 : N2 9 f (x + 1) = N 9 f (x + 1) := by rw [e2, up3_r _ _ _ _ _ (by decide), e1, up3_r _ _ _ _ _ (by decide)]
      rw [a8] at e2
      rw [a9] at e3
      have old : ∀ r, r ≠ 7 → r ≠ 8 → r ≠ 9 → ∀ i j, N3 r i j = N r i j := by
        intro r q7 q8 q9 i j
        rw [e3, up3_r _ _ _ _ _ q9, e2, up3_r _ _ _ _ _ q8, e1, up3_r _ _ _ _ _ q7]
      have v7 : ∀ j, N3 7 f j = if j = x then N 7 f (x + 1) else N 7 f j := by
        intro j
        rw [e3, up3_r _ _ _ _ _ (by decide), e2, up3_r _ _ _ _ _ (by decide), e1]
        by_cases e : j = x
        · rw [if_pos e, e, up3_s]
        · rw [if_neg e, up3_j _ _ _ _ _ e]
      have v8 : ∀ j, N3 8 f j = if j = x then N 8 f (x + 1) else N 8 f j := by
        intro j
        rw [e3, up3_r _ _ _ _ _ (by decide), e2]
        by_cases e : j = x
        · rw [if_pos e, e, up3_s]
        · rw [if_neg e, up3_j _ _ _ _ _ e, e1, up3_r _ _ _ _ _ (by decide)]
      have v9 : ∀ j, N3 9 f j = if j = x then N 9 f (x + 1) else N 9 f j := by
        intro j
        rw [e3]
        by_cases e : j = x
        · rw [if_pos e, e, up3_s]
        · rw [if_neg e, up3_j _ _ _ _ _ e, e2, up3_r _ _ _ _ _ (by decide), e1, up3_r _ _ _ _ _ (by decide)]
      refine ih (x + 1) N3 (by omega) (by omega) (by rw [e3, e2, e1]; exact ((hA.up1 (by decide) _ _).up1 (by decide) _ _).up1 (by decide) _ _) ?_ ?_ ?_ ?_
      · rw [old 5 (by decide) (by decide) (by decide)]
        exact h5
      · intro r j q7 q8 q9 q5
        rw [old r q7 q8 q9]
        exact ho r j q7 q8 q9 q5
      · intro i r q
        funext j
        rw [old r (by omega) (by omega) (by omega), h11 i r q]
      · intro r a q
        have fin : ∀ z, (z = if a = x then N r f (x + 1) else N r f a) → z = if s ≤ a ∧ a < x + 1 then M r f (a + 1) else M r f a := by
          intro z ez
          rw [ez, hr r (x + 1) q, hr r a q, if_neg (show ¬ (s ≤ x + 1 ∧ x + 1 < x) by omega)]
          by_cases e : a = x
          · rw [if_pos e, if_pos (by omega), e]
          · rw [if_neg e]
            by_cases e2 : s ≤ a ∧ a < x
            · rw [if_pos e2, if_pos (by omega)]
            · rw [if_neg e2, if_neg (by omega)]
        rcases q with q | q | q
        · subst q; exact fin _ (v7 a)
        · subst q; exact fin _ (v8 a)
        · subst q; exact fin _ (v9 a)
  refine sgX1_dropSound_0 C f s ⟨by omega, fun N eN => ?_⟩
  refine loop (M 5 f 3 - 1 - s).toNat s N (by omega) (by omega) (by rw [eN]; exact AgM.rf.up1 (by decide) _ _) (by rw [eN, up3_s]) ?_ ?_ ?_
  · intro r j q7 q8 q9 q5
    rw [eN]
    by_cases e : r = 5
    · subst e
      rw [up3_j _ _ _ _ _ (fun z => q5 ⟨rfl, z⟩)]
    · rw [up3_r _ _ _ _ _ e]
  · intro i r q
    funext j
    rw [eN, up3_r _ _ _ _ _ (by omega)]
  · intro r a q
    rw [if_neg (by omega), eN, up3_r _ _ _ _ _ (by omega)]
/-! ===== GapTellings$Film.allPictures ===== -/
abbrev rmX1_allPictures : Room := { frames := 0, cells := 0, slots := 0, locals := 0 }
abbrev argX1_allPictures (a : Int) : List PV := [.inr (5, a)]
abbrev CtX1_allPictures (sp : Int → Mem → Kont → Prop) : Prop := Ct yX1_allPictures cX1_allPictures 1 (some .int) rmX1_allPictures domC argX1_allPictures (fun a => sp a)
theorem dX1_allPictures_0 : decode cX1_allPictures 0 = .ok (.iconst 1, 1) := by decide +kernel
theorem dX1_allPictures_1 : decode cX1_allPictures 1 = .ok (.aload_n 0, 1) := by decide +kernel
theorem dX1_allPictures_2 : decode cX1_allPictures 2 = .ok (.getfield 41, 3) := by decide +kernel
theorem dX1_allPictures_5 : decode cX1_allPictures 5 = .ok (.ishl, 1) := by decide +kernel
theorem dX1_allPictures_6 : decode cX1_allPictures 6 = .ok (.iconst 1, 1) := by decide +kernel
theorem dX1_allPictures_7 : decode cX1_allPictures 7 = .ok (.isub, 1) := by decide +kernel
theorem dX1_allPictures_8 : decode cX1_allPictures 8 = .ok (.ireturn, 1) := by decide +kernel
theorem flX1_41 : FL RX1 41 1 7 := ⟨_, _, _, rfl, by decide, uwX1, Or.inl (tb_mem (t_in1 (List.mem_of_getElem? (i := 132) (by decide +kernel))) (by decide +kernel))⟩
set_option maxHeartbeats 4000000 in
set_option maxRecDepth 20000 in
theorem sgX1_allPictures_0 {κ : Kx} {K : Kont} {M : Mem} (C : Cx κ RX1 cX1_allPictures 1 (some .int) rmX1_allPictures domC) (i0 : Int)
    (h :
    inR ((bShl 1 (M 5 i0 7)) - 1) ∧
    K (some ((bShl 1 (M 5 i0 7)) - 1)) M) : V κ 1 M 0 [some (.inr (5, i0))] [] K := by
  refine v_iconst C dX1_allPictures_0 (by decide) ?_
  refine v_aload_n C dX1_allPictures_1 rfl ?_
  refine v_get C dX1_allPictures_2 flX1_41 rfl (by decide) (by decide) (w := .inl (M 5 i0 7)) rfl ?_
  refine v_ishl C dX1_allPictures_5 ?_
  refine v_iconst C dX1_allPictures_6 (by decide) ?_
  refine v_isub C dX1_allPictures_7 h.1 ?_
  replace h := h.2
  exact v_iret C dX1_allPictures_8 h
abbrev spX1_allPictures (f : Int) (M : Mem) (K : Kont) : Prop := (0 ≤ M 5 f 7 ∧ M 5 f 7 ≤ 7) ∧ K (some (bShl 1 (M 5 f 7) - 1)) M
theorem ctX1_allPictures : CtX1_allPictures spX1_allPictures := by
  refine ct_of (by decide) dmC (fun _ => Nat.le_of_ble_eq_true rfl) ?_
  intro κ f M K C oM h
  dsimp only [spX1_allPictures] at h
  have hw := shl_le7 (k := M 5 f 7) (by omega) (by omega)
  exact sgX1_allPictures_0 C f ⟨by omega, h.2⟩
/-! ===== GapTellings$Picture.start ===== -/
abbrev rmX3_start : Room := { frames := 0, cells := 0, slots := 0, locals := 0 }
abbrev argX3_start (a : Int × Int × Int × Int) : List PV := [.inr (11, a.1), .inl a.2.1, .inl a.2.2.1, .inl a.2.2.2]
abbrev CtX3_start (sp : Int → Int → Int → Int → Mem → Kont → Prop) : Prop := Ct yX3_start cX3_start 4 none rmX3_start domC argX3_start (fun a => sp a.1 a.2.1 a.2.2.1 a.2.2.2)
theorem dX3_start_0 : decode cX3_start 0 = .ok (.aload_n 0, 1) := by decide +kernel
theorem dX3_start_1 : decode cX3_start 1 = .ok (.iload_n 1, 1) := by decide +kernel
theorem dX3_start_2 : decode cX3_start 2 = .ok (.putfield 18, 3) := by decide +kernel
theorem dX3_start_5 : decode cX3_start 5 = .ok (.aload_n 0, 1) := by decide +kernel
theorem dX3_start_6 : decode cX3_start 6 = .ok (.iload_n 2, 1) := by decide +kernel
theorem dX3_start_7 : decode cX3_start 7 = .ok (.putfield 22, 3) := by decide +kernel
theorem dX3_start_10 : decode cX3_start 10 = .ok (.aload_n 0, 1) := by decide +kernel
theorem dX3_start_11 : decode cX3_start 11 = .ok (.iload_n 3, 1) := by decide +kernel
theorem dX3_start_12 : decode cX3_start 12 = .ok (.putfield 25, 3) := by decide +kernel
theorem dX3_start_15 : decode cX3_start 15 = .ok (.aload_n 0, 1) := by decide +kernel
theorem dX3_start_16 : decode cX3_start 16 = .ok (.bipush (-4), 2) := by decide +kernel
theorem dX3_start_18 : decode cX3_start 18 = .ok (.putfield 28, 3) := by decide +kernel
theorem dX3_start_21 : decode cX3_start 21 = .ok (.aload_n 0, 1) := by decide +kernel
theorem dX3_start_22 : decode cX3_start 22 = .ok (.iconst 0, 1) := by decide +kernel
theorem dX3_start_23 : decode cX3_start 23 = .ok (.putfield 31, 3) := by decide +kernel
theorem dX3_start_26 : decode cX3_start 26 = .ok (.return_, 1) := by decide +kernel
theorem plX3_18 : PL RX3 18 3 0 .int := ⟨_, _, _, rfl, by decide, uwX3, Or.inl (tb_mem (t_in1 (List.mem_of_getElem? (i := 61) (by decide +kernel))) (by decide +kernel)), rfl, by decide +kernel, tyX3, tyX3_ok, nmX3⟩
theorem plX3_22 : PL RX3 22 3 1 .int := ⟨_, _, _, rfl, by decide, uwX3, Or.inl (tb_mem (t_in1 (List.mem_of_getElem? (i := 66) (by decide +kernel))) (by decide +kernel)), rfl, by decide +kernel, tyX3, tyX3_ok, nmX3⟩
theorem plX3_25 : PL RX3 25 3 2 .int := ⟨_, _, _, rfl, by decide, uwX3, Or.inl (tb_mem (t_in1 (List.mem_of_getElem? (i := 70) (by decide +kernel))) (by decide +kernel)), rfl, by decide +kernel, tyX3, tyX3_ok, nmX3⟩
theorem plX3_28 : PL RX3 28 3 3 .int := ⟨_, _, _, rfl, by decide, uwX3, Or.inl (tb_mem (t_in1 (List.mem_of_getElem? (i := 73) (by decide +kernel))) (by decide +kernel)), rfl, by decide +kernel, tyX3, tyX3_ok, nmX3⟩
theorem plX3_31 : PL RX3 31 3 4 .int := ⟨_, _, _, rfl, by decide, uwX3, Or.inl (tb_mem (t_in1 (List.mem_of_getElem? (i := 78) (by decide +kernel))) (by decide +kernel)), rfl, by decide +kernel, tyX3, tyX3_ok, nmX3⟩
set_option maxHeartbeats 4000000 in
set_option maxRecDepth 20000 in
theorem sgX3_start_0 {κ : Kx} {K : Kont} {M : Mem} (C : Cx κ RX3 cX3_start 4 none rmX3_start domC) (i0 : Int) (x1 : Int) (x2 : Int) (x3 : Int)
    (h :
    ∀ M2 : Mem, M2 = up3 M 11 i0 0 x1 →
    ∀ M7 : Mem, M7 = up3 M2 11 i0 1 x2 →
    ∀ M12 : Mem, M12 = up3 M7 11 i0 2 x3 →
    ∀ M18 : Mem, M18 = up3 M12 11 i0 3 (-4) →
    ∀ M23 : Mem, M23 = up3 M18 11 i0 4 0 →
    K none M23) : V κ 4 M 0 [some (.inr (11, i0)), some (.inl x1), some (.inl x2), some (.inl x3)] [] K := by
  refine v_aload_n C dX3_start_0 rfl ?_
  refine v_iload_n C dX3_start_1 rfl ?_
  refine v_put C dX3_start_2 plX3_18 rfl (by decide) (by decide) rfl rfl rfl ?_
  refine v_nmM (fun M2 eM2 => ?_)
  replace h := h M2 eM2
  refine v_aload_n C dX3_start_5 rfl ?_
  refine v_iload_n C dX3_start_6 rfl ?_
  refine v_put C dX3_start_7 plX3_22 rfl (by decide) (by decide) rfl rfl rfl ?_
  refine v_nmM (fun M7 eM7 => ?_)
  replace h := h M7 eM7
  refine v_aload_n C dX3_start_10 rfl ?_
  refine v_iload_n C dX3_start_11 rfl ?_
  refine v_put C dX3_start_12 plX3_25 rfl (by decide) (by decide) rfl rfl rfl ?_
  refine v_nmM (fun M12 eM12 => ?_)
  replace h := h M12 eM12
  refine v_aload_n C dX3_start_15 rfl ?_
  refine v_bipush C dX3_start_16 (by decide) (by decide) ?_
  refine v_put C dX3_start_18 plX3_28 rfl (by decide) (by decide) rfl rfl rfl ?_
  refine v_nmM (fun M18 eM18 => ?_)
  replace h := h M18 eM18
  refine v_aload_n C dX3_start_21 rfl ?_
  refine v_iconst C dX3_start_22 (by decide) ?_
  refine v_put C dX3_start_23 plX3_31 rfl (by decide) (by decide) rfl rfl rfl ?_
  refine v_nmM (fun M23 eM23 => ?_)
  replace h := h M23 eM23
  exact v_vret C dX3_start_26 h
abbrev spX3_start (i x y z : Int) (M : Mem) (K : Kont) : Prop := ∀ M', M' = up3 (up3 (up3 (up3 (up3 M 11 i 0 x) 11 i 1 y) 11 i 2 z) 11 i 3 (-4)) 11 i 4 0 → K none M'
theorem ctX3_start : CtX3_start spX3_start := by
  refine ct_of (by decide) dmC (fun _ => Nat.le_of_ble_eq_true rfl) ?_
  intro κ a M K C oM h
  obtain ⟨i, x, y, z⟩ := a
  exact sgX3_start_0 C i x y z (fun M1 e1 M2 e2 M3 e3 M4 e4 M5 e5 => h M5 (by rw [e5, e4, e3, e2, e1]))
/-! ===== GapTellings$Picture.addVersion ===== -/
abbrev rmX3_addVersion : Room := { frames := 0, cells := 0, slots := 0, locals := 0 }
abbrev argX3_addVersion (a : Int × Int × Int) : List PV := [.inr (11, a.1), .inl a.2.1, .inl a.2.2]
abbrev CtX3_addVersion (sp : Int → Int → Int → Mem → Kont → Prop) : Prop := Ct yX3_addVersion cX3_addVersion 3 none rmX3_addVersion domC argX3_addVersion (fun a => sp a.1 a.2.1 a.2.2)
theorem dX3_addVersion_0 : decode cX3_addVersion 0 = .ok (.aload_n 0, 1) := by decide +kernel
theorem dX3_addVersion_1 : decode cX3_addVersion 1 = .ok (.getfield 31, 3) := by decide +kernel
theorem dX3_addVersion_4 : decode cX3_addVersion 4 = .ok (.iconst 3, 1) := by decide +kernel
theorem dX3_addVersion_5 : decode cX3_addVersion 5 = .ok (.if_icmp .ge 33, 3) := by decide +kernel
theorem dX3_addVersion_8 : decode cX3_addVersion 8 = .ok (.aload_n 0, 1) := by decide +kernel
theorem dX3_addVersion_9 : decode cX3_addVersion 9 = .ok (.getfield 9, 3) := by decide +kernel
theorem dX3_addVersion_12 : decode cX3_addVersion 12 = .ok (.aload_n 0, 1) := by decide +kernel
theorem dX3_addVersion_13 : decode cX3_addVersion 13 = .ok (.getfield 31, 3) := by decide +kernel
theorem dX3_addVersion_16 : decode cX3_addVersion 16 = .ok (.iload_n 1, 1) := by decide +kernel
theorem dX3_addVersion_17 : decode cX3_addVersion 17 = .ok (.iastore, 1) := by decide +kernel
theorem dX3_addVersion_18 : decode cX3_addVersion 18 = .ok (.aload_n 0, 1) := by decide +kernel
theorem dX3_addVersion_19 : decode cX3_addVersion 19 = .ok (.getfield 15, 3) := by decide +kernel
theorem dX3_addVersion_22 : decode cX3_addVersion 22 = .ok (.aload_n 0, 1) := by decide +kernel
theorem dX3_addVersion_23 : decode cX3_addVersion 23 = .ok (.getfield 31, 3) := by decide +kernel
theorem dX3_addVersion_26 : decode cX3_addVersion 26 = .ok (.iload_n 2, 1) := by decide +kernel
theorem dX3_addVersion_27 : decode cX3_addVersion 27 = .ok (.iastore, 1) := by decide +kernel
theorem dX3_addVersion_28 : decode cX3_addVersion 28 = .ok (.aload_n 0, 1) := by decide +kernel
theorem dX3_addVersion_29 : decode cX3_addVersion 29 = .ok (.dup, 1) := by decide +kernel
theorem dX3_addVersion_30 : decode cX3_addVersion 30 = .ok (.getfield 31, 3) := by decide +kernel
theorem dX3_addVersion_33 : decode cX3_addVersion 33 = .ok (.iconst 1, 1) := by decide +kernel
theorem dX3_addVersion_34 : decode cX3_addVersion 34 = .ok (.iadd, 1) := by decide +kernel
theorem dX3_addVersion_35 : decode cX3_addVersion 35 = .ok (.putfield 31, 3) := by decide +kernel
theorem dX3_addVersion_38 : decode cX3_addVersion 38 = .ok (.return_, 1) := by decide +kernel
theorem flX3_31 : FL RX3 31 3 4 := ⟨_, _, _, rfl, by decide, uwX3, Or.inl (tb_mem (t_in1 (List.mem_of_getElem? (i := 78) (by decide +kernel))) (by decide +kernel))⟩
theorem flX3_9 : FL RX3 9 3 5 := ⟨_, _, _, rfl, by decide, uwX3, Or.inl (tb_mem (t_in1 (List.mem_of_getElem? (i := 82) (by decide +kernel))) (by decide +kernel))⟩
theorem flX3_15 : FL RX3 15 3 6 := ⟨_, _, _, rfl, by decide, uwX3, Or.inl (tb_mem (t_in1 (List.mem_of_getElem? (i := 87) (by decide +kernel))) (by decide +kernel))⟩
set_option maxHeartbeats 4000000 in
set_option maxRecDepth 20000 in
theorem sgX3_addVersion_0 {κ : Kx} {K : Kont} {M : Mem} (C : Cx κ RX3 cX3_addVersion 3 none rmX3_addVersion domC) (i0 : Int) (x1 : Int) (x2 : Int)
    (h :
    ((3 ≤ (M 11 i0 4) →
      K none M) ∧
     (¬ (3 ≤ (M 11 i0 4)) →
      (0 ≤ (M 11 i0 4) ∧ (M 11 i0 4) < 3) ∧
      ∀ M17 : Mem, M17 = up3 M 12 i0 (M 11 i0 4) x1 →
      (0 ≤ (M17 11 i0 4) ∧ (M17 11 i0 4) < 3) ∧
      ∀ M27 : Mem, M27 = up3 M17 13 i0 (M17 11 i0 4) x2 →
      inR ((M27 11 i0 4) + 1) ∧
      ∀ M35 : Mem, M35 = up3 M27 11 i0 4 ((M27 11 i0 4) + 1) →
      K none M35))) : V κ 3 M 0 [some (.inr (11, i0)), some (.inl x1), some (.inl x2)] [] K := by
  refine v_aload_n C dX3_addVersion_0 rfl ?_
  refine v_get C dX3_addVersion_1 flX3_31 rfl (by decide) (by decide) (w := .inl (M 11 i0 4)) rfl ?_
  refine v_iconst C dX3_addVersion_4 (by decide) ?_
  refine v_icmp C dX3_addVersion_5 (tgt := 38) (by decide) (P := 3 ≤ (M 11 i0 4)) rfl (fun c5 => ?_) (fun c5 => ?_)
  · replace h := h.1 c5
    exact v_vret C dX3_addVersion_38 h
  · replace h := h.2 c5
    refine v_aload_n C dX3_addVersion_8 rfl ?_
    refine v_get C dX3_addVersion_9 flX3_9 rfl (by decide) (by decide) (w := .inr (12, i0)) rfl ?_
    refine v_aload_n C dX3_addVersion_12 rfl ?_
    refine v_get C dX3_addVersion_13 flX3_31 rfl (by decide) (by decide) (w := .inl (M 11 i0 4)) rfl ?_
    refine v_iload_n C dX3_addVersion_16 rfl ?_
    refine v_iast C dX3_addVersion_17 rfl h.1.1 h.1.2 ?_
    replace h := h.2
    refine v_nmM (fun M17 eM17 => ?_)
    replace h := h M17 eM17
    refine v_aload_n C dX3_addVersion_18 rfl ?_
    refine v_get C dX3_addVersion_19 flX3_15 rfl (by decide) (by decide) (w := .inr (13, i0)) rfl ?_
    refine v_aload_n C dX3_addVersion_22 rfl ?_
    refine v_get C dX3_addVersion_23 flX3_31 rfl (by decide) (by decide) (w := .inl (M17 11 i0 4)) rfl ?_
    refine v_iload_n C dX3_addVersion_26 rfl ?_
    refine v_iast C dX3_addVersion_27 rfl h.1.1 h.1.2 ?_
    replace h := h.2
    refine v_nmM (fun M27 eM27 => ?_)
    replace h := h M27 eM27
    refine v_aload_n C dX3_addVersion_28 rfl ?_
    refine v_dup C dX3_addVersion_29 ?_
    refine v_get C dX3_addVersion_30 flX3_31 rfl (by decide) (by decide) (w := .inl (M27 11 i0 4)) rfl ?_
    refine v_iconst C dX3_addVersion_33 (by decide) ?_
    refine v_iadd C dX3_addVersion_34 h.1 ?_
    replace h := h.2
    refine v_put C dX3_addVersion_35 plX3_31 rfl (by decide) (by decide) rfl rfl rfl ?_
    refine v_nmM (fun M35 eM35 => ?_)
    replace h := h M35 eM35
    exact v_vret C dX3_addVersion_38 h
abbrev spX3_addVersion (i l w : Int) (M : Mem) (K : Kont) : Prop := (0 ≤ M 11 i 4 ∧ M 11 i 4 < 3) ∧ ∀ M', M' = up3 (up3 (up3 M 12 i (M 11 i 4) l) 13 i (M 11 i 4) w) 11 i 4 (M 11 i 4 + 1) → K none M'
theorem ctX3_addVersion : CtX3_addVersion spX3_addVersion := by
  refine ct_of (by decide) dmC (fun _ => Nat.le_of_ble_eq_true rfl) ?_
  intro κ a M K C oM h
  obtain ⟨i, l, w⟩ := a
  dsimp only [spX3_addVersion] at h
  obtain ⟨hn, hk⟩ := h
  refine sgX3_addVersion_0 C i l w ⟨fun c => absurd c (by omega), fun c => ⟨by omega, fun M1 e1 => ?_⟩⟩
  have n1 : M1 11 i 4 = M 11 i 4 := by rw [e1, up3_r _ _ _ _ _ (by decide)]
  refine ⟨by omega, fun M2 e2 => ?_⟩
  have n2 : M2 11 i 4 = M 11 i 4 := by rw [e2, up3_r _ _ _ _ _ (by decide), n1]
  refine ⟨by omega, fun M3 e3 => hk M3 ?_⟩
  rw [e3, n2, e2, n1, e1]
theorem cF_ver {M : Mem} {f p l w : Int} : cFilm (up3 (up3 (up3 M 12 (7 * f + p) (M 11 (7 * f + p) 4) l) 13 (7 * f + p) (M 11 (7 * f + p) 4) w) 11 (7 * f + p) 4 (M 11 (7 * f + p) 4 + 1)) f = sFV (cFilm M f) p l w := by
  funext t a b
  have e : ∀ a : Int, (7 * f + a = 7 * f + p) = (a = p) := fun a => by apply propext; omega
  unfold cFilm sFV
  split <;> simp [up3, e]
  simp_all
theorem cF_pic {M : Mem} {f p x y z : Int} : cFilm (up3 (up3 (up3 (up3 (up3 M 11 (7 * f + p) 0 x) 11 (7 * f + p) 1 y) 11 (7 * f + p) 2 z) 11 (7 * f + p) 3 (-4)) 11 (7 * f + p) 4 0) f = sFP (cFilm M f) p x y z := by
  funext t a b
  have e : ∀ a : Int, (7 * f + a = 7 * f + p) = (a = p) := fun a => by apply propext; omega
  unfold cFilm sFP
  split <;> simp [up3, e]
  all_goals simp_all
end
section
/-! ===== texts: figures, numbers, items ===== -/
abbrev isF (X : Int → Int) (L p : Int) : Prop := p < L ∧ 48 ≤ X p ∧ X p ≤ 57
def dgc (X : Int → Int) (L : Int) : Nat → Int → Int
  | 0, _ => 0
  | m + 1, p => if isF X L p then 1 + dgc X L m (p + 1) else 0
def dgv (X : Int → Int) (L : Int) : Nat → Int → Int → Int
  | 0, _, acc => acc
  | m + 1, p, acc => if isF X L p then dgv X L m (p + 1) (acc * 10 + (X p - 48)) else acc
theorem dgc_rng (X : Int → Int) (L : Int) : ∀ (m : Nat) (p : Int), 0 ≤ dgc X L m p ∧ dgc X L m p ≤ m ∧ (p ≤ L → p + dgc X L m p ≤ L) := by
  intro m
  induction m with
  | zero => intro p; simp [dgc]
  | succ m ih =>
    intro p
    unfold dgc
    have := ih (p + 1)
    split
    · rename_i h
      omega
    · omega
theorem ten_pow_ge (m : Nat) : (1 : Int) ≤ 10 ^ m := by
  have : (0 : Int) < 10 ^ m := Int.pow_pos (by decide)
  omega
theorem dgv_rng (X : Int → Int) (L : Int) : ∀ (m : Nat) (p acc A : Int), 0 ≤ acc → acc ≤ A → 0 ≤ dgv X L m p acc ∧ dgv X L m p acc ≤ (A + 1) * 10 ^ m - 1 := by
  intro m
  induction m with
  | zero => intro p acc A h0 h1; simp [dgv]; omega
  | succ m ih =>
    intro p acc A h0 h1
    unfold dgv
    have e : (A + 1) * 10 ^ (m + 1) = (10 * A + 9 + 1) * 10 ^ m := by
      rw [Int.pow_succ, Int.mul_comm (10 ^ m) 10, ← Int.mul_assoc]
      congr 1
      omega
    split
    · rename_i h
      have := ih (p + 1) (acc * 10 + (X p - 48)) (10 * A + 9) (by omega) (by omega)
      rw [e]
      exact this
    · have := ih p acc A h0 h1
      have hp : (1 : Int) ≤ 10 ^ m := ten_pow_ge m
      have h2 : A + 1 ≤ (A + 1) * 10 ^ (m + 1) := by
        have q : (1 : Int) ≤ 10 ^ (m + 1) := ten_pow_ge (m + 1)
        have := Int.mul_le_mul_of_nonneg_left q (show 0 ≤ A + 1 by omega)
        omega
      omega
/-- numbers one behind the other, each with how many figures, to behind a ; -/
def tks (X : Int → Int) (L : Int) : Nat → Int → Option (List (Int × Int) × Int)
  | 0, _ => none
  | n + 1, p => if dgc X L 3 p = 0 ∨ L ≤ p + dgc X L 3 p then none
    else if X (p + dgc X L 3 p) = 59 then some ([(dgv X L 3 p 0, dgc X L 3 p)], p + dgc X L 3 p + 1)
    else if X (p + dgc X L 3 p) = 44 then (tks X L n (p + dgc X L 3 p + 1)).map (fun q => ((dgv X L 3 p 0, dgc X L 3 p) :: q.1, q.2))
    else none
theorem tks_len {X : Int → Int} {L : Int} : ∀ (n : Nat) (p : Int) (l : List (Int × Int)) (e : Int), tks X L n p = some (l, e) → 1 ≤ l.length ∧ l.length ≤ n ∧ p + 2 ≤ e ∧ e ≤ L ∧ ∀ q ∈ l, (0 ≤ q.1 ∧ q.1 ≤ 999) ∧ (1 ≤ q.2 ∧ q.2 ≤ 3) := by
  intro n
  induction n with
  | zero => intro p l e h; simp [tks] at h
  | succ n ih =>
    intro p l e h
    have hc := dgc_rng X L 3 p
    have hv := dgv_rng X L 3 p 0 0 (by omega) (by omega)
    have hv2 : dgv X L 3 p 0 ≤ 999 := by have := hv.2; omega
    unfold tks at h
    split at h
    · cases h
    · rename_i h1
      split at h
      · simp at h
        obtain ⟨rfl, rfl⟩ := h
        refine ⟨by simp, by simp, by omega, by omega, fun q hq => ?_⟩
        simp at hq
        subst hq
        exact ⟨⟨hv.1, hv2⟩, by show 1 ≤ dgc X L 3 p ∧ dgc X L 3 p ≤ 3; omega⟩
      · split at h
        · cases hr : tks X L n (p + dgc X L 3 p + 1) with
          | none => rw [hr] at h; cases h
          | some r =>
            obtain ⟨l', e'⟩ := r
            rw [hr] at h
            simp at h
            obtain ⟨rfl, rfl⟩ := h
            have := ih _ l' e' hr
            refine ⟨by simp, by simp; omega, by omega, by omega, fun q hq => ?_⟩
            rcases List.mem_cons.mp hq with z | z
            · subst z
              exact ⟨⟨hv.1, hv2⟩, by show 1 ≤ dgc X L 3 p ∧ dgc X L 3 p ≤ 3; omega⟩
            · exact this.2.2.2.2 q z
        · cases h
/-- nothing but the reader has changed -/
def AgR (M M' : Mem) : Prop := ∀ r, ¬ (2 ≤ r ∧ r ≤ 4) → M' r = M r
theorem AgR.rf {M : Mem} : AgR M M := fun _ _ => rfl
theorem AgR.tr {M M' M2 : Mem} (h : AgR M M') (h2 : AgR M' M2) : AgR M M2 := fun r hr => (h2 r hr).trans (h r hr)
theorem AgR.up {M M' : Mem} (h : AgR M M') {r : Nat} (hr : 2 ≤ r ∧ r ≤ 4) (i j v : Int) : AgR M (up3 M' r i j v) := by
  intro r' hn
  rw [← h r' hn]
  funext i' j'
  exact if_neg (fun q => hn (by rw [q.1]; exact hr))
theorem AgR.film {M M' : Mem} (h : AgR M M') (f : Int) : cFilm M' f = cFilm M f := cFilm_eq (fun r h1 h2 => h r (by omega)) f
/-! ===== GapTellings$TextReader.readNumber ===== -/
abbrev rmX5_readNumber : Room := { frames := 0, cells := 0, slots := 0, locals := 0 }
abbrev argX5_readNumber (a : Int × Int) : List PV := [.inr (2, 0), .inr (1, 0), .inl a.1, .inl a.2]
abbrev CtX5_readNumber (sp : Int → Int → Mem → Kont → Prop) : Prop := Ct yX5_readNumber cX5_readNumber 6 none rmX5_readNumber domC argX5_readNumber (fun a => sp a.1 a.2)
theorem dX5_readNumber_0 : decode cX5_readNumber 0 = .ok (.iconst 0, 1) := by decide +kernel
theorem dX5_readNumber_1 : decode cX5_readNumber 1 = .ok (.istore 4, 2) := by decide +kernel
theorem dX5_readNumber_3 : decode cX5_readNumber 3 = .ok (.iconst 0, 1) := by decide +kernel
theorem dX5_readNumber_4 : decode cX5_readNumber 4 = .ok (.istore 5, 2) := by decide +kernel
theorem dX5_readNumber_6 : decode cX5_readNumber 6 = .ok (.iload 5, 2) := by decide +kernel
theorem dX5_readNumber_8 : decode cX5_readNumber 8 = .ok (.iconst 3, 1) := by decide +kernel
theorem dX5_readNumber_9 : decode cX5_readNumber 9 = .ok (.if_icmp .ge 66, 3) := by decide +kernel
theorem dX5_readNumber_12 : decode cX5_readNumber 12 = .ok (.aload_n 0, 1) := by decide +kernel
theorem dX5_readNumber_13 : decode cX5_readNumber 13 = .ok (.getfield 23, 3) := by decide +kernel
theorem dX5_readNumber_16 : decode cX5_readNumber 16 = .ok (.iload_n 2, 1) := by decide +kernel
theorem dX5_readNumber_17 : decode cX5_readNumber 17 = .ok (.if_icmp .ge 58, 3) := by decide +kernel
theorem dX5_readNumber_20 : decode cX5_readNumber 20 = .ok (.aload_n 1, 1) := by decide +kernel
theorem dX5_readNumber_21 : decode cX5_readNumber 21 = .ok (.aload_n 0, 1) := by decide +kernel
theorem dX5_readNumber_22 : decode cX5_readNumber 22 = .ok (.getfield 23, 3) := by decide +kernel
theorem dX5_readNumber_25 : decode cX5_readNumber 25 = .ok (.caload, 1) := by decide +kernel
theorem dX5_readNumber_26 : decode cX5_readNumber 26 = .ok (.bipush 48, 2) := by decide +kernel
theorem dX5_readNumber_28 : decode cX5_readNumber 28 = .ok (.if_icmp .lt 47, 3) := by decide +kernel
theorem dX5_readNumber_31 : decode cX5_readNumber 31 = .ok (.aload_n 1, 1) := by decide +kernel
theorem dX5_readNumber_32 : decode cX5_readNumber 32 = .ok (.aload_n 0, 1) := by decide +kernel
theorem dX5_readNumber_33 : decode cX5_readNumber 33 = .ok (.getfield 23, 3) := by decide +kernel
theorem dX5_readNumber_36 : decode cX5_readNumber 36 = .ok (.caload, 1) := by decide +kernel
theorem dX5_readNumber_37 : decode cX5_readNumber 37 = .ok (.bipush 57, 2) := by decide +kernel
theorem dX5_readNumber_39 : decode cX5_readNumber 39 = .ok (.if_icmp .gt 36, 3) := by decide +kernel
theorem dX5_readNumber_42 : decode cX5_readNumber 42 = .ok (.iload 4, 2) := by decide +kernel
theorem dX5_readNumber_44 : decode cX5_readNumber 44 = .ok (.bipush 10, 2) := by decide +kernel
theorem dX5_readNumber_46 : decode cX5_readNumber 46 = .ok (.imul, 1) := by decide +kernel
theorem dX5_readNumber_47 : decode cX5_readNumber 47 = .ok (.aload_n 1, 1) := by decide +kernel
theorem dX5_readNumber_48 : decode cX5_readNumber 48 = .ok (.aload_n 0, 1) := by decide +kernel
theorem dX5_readNumber_49 : decode cX5_readNumber 49 = .ok (.getfield 23, 3) := by decide +kernel
theorem dX5_readNumber_52 : decode cX5_readNumber 52 = .ok (.caload, 1) := by decide +kernel
theorem dX5_readNumber_53 : decode cX5_readNumber 53 = .ok (.bipush 48, 2) := by decide +kernel
theorem dX5_readNumber_55 : decode cX5_readNumber 55 = .ok (.isub, 1) := by decide +kernel
theorem dX5_readNumber_56 : decode cX5_readNumber 56 = .ok (.iadd, 1) := by decide +kernel
theorem dX5_readNumber_57 : decode cX5_readNumber 57 = .ok (.istore 4, 2) := by decide +kernel
theorem dX5_readNumber_59 : decode cX5_readNumber 59 = .ok (.iinc 5 1, 3) := by decide +kernel
theorem dX5_readNumber_62 : decode cX5_readNumber 62 = .ok (.aload_n 0, 1) := by decide +kernel
theorem dX5_readNumber_63 : decode cX5_readNumber 63 = .ok (.dup, 1) := by decide +kernel
theorem dX5_readNumber_64 : decode cX5_readNumber 64 = .ok (.getfield 23, 3) := by decide +kernel
theorem dX5_readNumber_67 : decode cX5_readNumber 67 = .ok (.iconst 1, 1) := by decide +kernel
theorem dX5_readNumber_68 : decode cX5_readNumber 68 = .ok (.iadd, 1) := by decide +kernel
theorem dX5_readNumber_69 : decode cX5_readNumber 69 = .ok (.putfield 23, 3) := by decide +kernel
theorem dX5_readNumber_72 : decode cX5_readNumber 72 = .ok (.goto (-66), 3) := by decide +kernel
theorem dX5_readNumber_75 : decode cX5_readNumber 75 = .ok (.aload_n 0, 1) := by decide +kernel
theorem dX5_readNumber_76 : decode cX5_readNumber 76 = .ok (.getfield 9, 3) := by decide +kernel
theorem dX5_readNumber_79 : decode cX5_readNumber 79 = .ok (.iload_n 3, 1) := by decide +kernel
theorem dX5_readNumber_80 : decode cX5_readNumber 80 = .ok (.iload 4, 2) := by decide +kernel
theorem dX5_readNumber_82 : decode cX5_readNumber 82 = .ok (.iastore, 1) := by decide +kernel
theorem dX5_readNumber_83 : decode cX5_readNumber 83 = .ok (.aload_n 0, 1) := by decide +kernel
theorem dX5_readNumber_84 : decode cX5_readNumber 84 = .ok (.getfield 15, 3) := by decide +kernel
theorem dX5_readNumber_87 : decode cX5_readNumber 87 = .ok (.iload_n 3, 1) := by decide +kernel
theorem dX5_readNumber_88 : decode cX5_readNumber 88 = .ok (.iload 5, 2) := by decide +kernel
theorem dX5_readNumber_90 : decode cX5_readNumber 90 = .ok (.iastore, 1) := by decide +kernel
theorem dX5_readNumber_91 : decode cX5_readNumber 91 = .ok (.return_, 1) := by decide +kernel
theorem flX5_9 : FL RX5 9 5 0 := ⟨_, _, _, rfl, by decide, uwX5, Or.inl (tb_mem (t_in1 (List.mem_of_getElem? (i := 33) (by decide +kernel))) (by decide +kernel))⟩
theorem flX5_15 : FL RX5 15 5 1 := ⟨_, _, _, rfl, by decide, uwX5, Or.inl (tb_mem (t_in1 (List.mem_of_getElem? (i := 34) (by decide +kernel))) (by decide +kernel))⟩
theorem flX5_23 : FL RX5 23 5 3 := ⟨_, _, _, rfl, by decide, uwX5, Or.inl (tb_mem (t_in1 (List.mem_of_getElem? (i := 36) (by decide +kernel))) (by decide +kernel))⟩
theorem plX5_23 : PL RX5 23 5 3 .int := ⟨_, _, _, rfl, by decide, uwX5, Or.inl (tb_mem (t_in1 (List.mem_of_getElem? (i := 36) (by decide +kernel))) (by decide +kernel)), rfl, by decide +kernel, tyX5, tyX5_ok, nmX5⟩
set_option maxHeartbeats 4000000 in
set_option maxRecDepth 20000 in
theorem sgX5_readNumber_0 {κ : Kx} {K : Kont} {M : Mem} (C : Cx κ RX5 cX5_readNumber 6 none rmX5_readNumber domC) (x2 : Int) (x3 : Int)
    (h :
    V κ 6 M 6 [some (.inr (2, 0)), some (.inr (1, 0)), some (.inl x2), some (.inl x3), some (.inl 0), some (.inl 0)] [] K) : V κ 6 M 0 [some (.inr (2, 0)), some (.inr (1, 0)), some (.inl x2), some (.inl x3), none, none] [] K := by
  refine v_iconst C dX5_readNumber_0 (by decide) ?_
  refine v_istore C dX5_readNumber_1 (by decide) (Nat.le_of_ble_eq_true rfl) (lv' := [some (.inr (2, 0)), some (.inr (1, 0)), some (.inl x2), some (.inl x3), some (.inl 0), none]) rfl ?_
  refine v_iconst C dX5_readNumber_3 (by decide) ?_
  refine v_istore C dX5_readNumber_4 (by decide) (Nat.le_of_ble_eq_true rfl) (lv' := [some (.inr (2, 0)), some (.inr (1, 0)), some (.inl x2), some (.inl x3), some (.inl 0), some (.inl 0)]) rfl ?_
  refine v_weak [some (.inr (2, 0)), some (.inr (1, 0)), some (.inl x2), some (.inl x3), some (.inl 0), some (.inl 0)] ⟨rfl, rfl, rfl, rfl, rfl, rfl, trivial⟩ ?_
  exact h
set_option maxHeartbeats 4000000 in
set_option maxRecDepth 20000 in
theorem sgX5_readNumber_6 {κ : Kx} {K : Kont} {M : Mem} (C : Cx κ RX5 cX5_readNumber 6 none rmX5_readNumber domC) (x2 : Int) (x3 : Int) (x4 : Int) (x5 : Int)
    (h :
    ((3 ≤ x5 →
      (0 ≤ x3 ∧ x3 < 9) ∧
      ∀ M82 : Mem, M82 = up3 M 3 0 x3 x4 →
      (0 ≤ x3 ∧ x3 < 9) ∧
      ∀ M90 : Mem, M90 = up3 M82 4 0 x3 x5 →
      K none M90) ∧
     (¬ (3 ≤ x5) →
      ((x2 ≤ (M 2 0 3) →
        (0 ≤ x3 ∧ x3 < 9) ∧
        ∀ M82 : Mem, M82 = up3 M 3 0 x3 x4 →
        (0 ≤ x3 ∧ x3 < 9) ∧
        ∀ M90 : Mem, M90 = up3 M82 4 0 x3 x5 →
        K none M90) ∧
       (¬ (x2 ≤ (M 2 0 3)) →
        (0 ≤ (M 2 0 3) ∧ (M 2 0 3) < 200) ∧
        (((M 1 0 (M 2 0 3)) < 48 →
          (0 ≤ x3 ∧ x3 < 9) ∧
          ∀ M82 : Mem, M82 = up3 M 3 0 x3 x4 →
          (0 ≤ x3 ∧ x3 < 9) ∧
          ∀ M90 : Mem, M90 = up3 M82 4 0 x3 x5 →
          K none M90) ∧
         (¬ ((M 1 0 (M 2 0 3)) < 48) →
          (0 ≤ (M 2 0 3) ∧ (M 2 0 3) < 200) ∧
          ((57 < (M 1 0 (M 2 0 3)) →
            (0 ≤ x3 ∧ x3 < 9) ∧
            ∀ M82 : Mem, M82 = up3 M 3 0 x3 x4 →
            (0 ≤ x3 ∧ x3 < 9) ∧
            ∀ M90 : Mem, M90 = up3 M82 4 0 x3 x5 →
            K none M90) ∧
           (¬ (57 < (M 1 0 (M 2 0 3))) →
            inR (x4 * 10) ∧
            (0 ≤ (M 2 0 3) ∧ (M 2 0 3) < 200) ∧
            inR ((M 1 0 (M 2 0 3)) - 48) ∧
            inR ((x4 * 10) + ((M 1 0 (M 2 0 3)) - 48)) ∧
            ∀ y4_57 : Int, y4_57 = (x4 * 10) + ((M 1 0 (M 2 0 3)) - 48) →
            inR (x5 + 1) ∧
            inR ((M 2 0 3) + 1) ∧
            ∀ M69 : Mem, M69 = up3 M 2 0 3 ((M 2 0 3) + 1) →
            V κ 6 M69 6 [some (.inr (2, 0)), some (.inr (1, 0)), some (.inl x2), some (.inl x3), some (.inl y4_57), some (.inl (x5 + 1))] [] K))))))))) : V κ 6 M 6 [some (.inr (2, 0)), some (.inr (1, 0)), some (.inl x2), some (.inl x3), some (.inl x4), some (.inl x5)] [] K := by
  refine v_iload C dX5_readNumber_6 rfl ?_
  refine v_iconst C dX5_readNumber_8 (by decide) ?_
  refine v_icmp C dX5_readNumber_9 (tgt := 75) (by decide) (P := 3 ≤ x5) rfl (fun c9 => ?_) (fun c9 => ?_)
  · replace h := h.1 c9
    refine v_aload_n C dX5_readNumber_75 rfl ?_
    refine v_get C dX5_readNumber_76 flX5_9 rfl (by decide) (by decide) (w := .inr (3, 0)) rfl ?_
    refine v_iload_n C dX5_readNumber_79 rfl ?_
    refine v_iload C dX5_readNumber_80 rfl ?_
    refine v_iast C dX5_readNumber_82 rfl h.1.1 h.1.2 ?_
    replace h := h.2
    refine v_nmM (fun M82 eM82 => ?_)
    replace h := h M82 eM82
    refine v_aload_n C dX5_readNumber_83 rfl ?_
    refine v_get C dX5_readNumber_84 flX5_15 rfl (by decide) (by decide) (w := .inr (4, 0)) rfl ?_
    refine v_iload_n C dX5_readNumber_87 rfl ?_
    refine v_iload C dX5_readNumber_88 rfl ?_
    refine v_iast C dX5_readNumber_90 rfl h.1.1 h.1.2 ?_
    replace h := h.2
    refine v_nmM (fun M90 eM90 => ?_)
    replace h := h M90 eM90
    exact v_vret C dX5_readNumber_91 h
  · replace h := h.2 c9
    refine v_aload_n C dX5_readNumber_12 rfl ?_
    refine v_get C dX5_readNumber_13 flX5_23 rfl (by decide) (by decide) (w := .inl (M 2 0 3)) rfl ?_
    refine v_iload_n C dX5_readNumber_16 rfl ?_
    refine v_icmp C dX5_readNumber_17 (tgt := 75) (by decide) (P := x2 ≤ (M 2 0 3)) rfl (fun c17 => ?_) (fun c17 => ?_)
    · replace h := h.1 c17
      refine v_aload_n C dX5_readNumber_75 rfl ?_
      refine v_get C dX5_readNumber_76 flX5_9 rfl (by decide) (by decide) (w := .inr (3, 0)) rfl ?_
      refine v_iload_n C dX5_readNumber_79 rfl ?_
      refine v_iload C dX5_readNumber_80 rfl ?_
      refine v_iast C dX5_readNumber_82 rfl h.1.1 h.1.2 ?_
      replace h := h.2
      refine v_nmM (fun M82 eM82 => ?_)
      replace h := h M82 eM82
      refine v_aload_n C dX5_readNumber_83 rfl ?_
      refine v_get C dX5_readNumber_84 flX5_15 rfl (by decide) (by decide) (w := .inr (4, 0)) rfl ?_
      refine v_iload_n C dX5_readNumber_87 rfl ?_
      refine v_iload C dX5_readNumber_88 rfl ?_
      refine v_iast C dX5_readNumber_90 rfl h.1.1 h.1.2 ?_
      replace h := h.2
      refine v_nmM (fun M90 eM90 => ?_)
      replace h := h M90 eM90
      exact v_vret C dX5_readNumber_91 h
    · replace h := h.2 c17
      refine v_aload_n C dX5_readNumber_20 rfl ?_
      refine v_aload_n C dX5_readNumber_21 rfl ?_
      refine v_get C dX5_readNumber_22 flX5_23 rfl (by decide) (by decide) (w := .inl (M 2 0 3)) rfl ?_
      refine v_cald C dX5_readNumber_25 rfl h.1.1 h.1.2 ?_
      replace h := h.2
      refine v_bipush C dX5_readNumber_26 (by decide) (by decide) ?_
      refine v_icmp C dX5_readNumber_28 (tgt := 75) (by decide) (P := (M 1 0 (M 2 0 3)) < 48) rfl (fun c28 => ?_) (fun c28 => ?_)
      · replace h := h.1 c28
        refine v_aload_n C dX5_readNumber_75 rfl ?_
        refine v_get C dX5_readNumber_76 flX5_9 rfl (by decide) (by decide) (w := .inr (3, 0)) rfl ?_
        refine v_iload_n C dX5_readNumber_79 rfl ?_
        refine v_iload C dX5_readNumber_80 rfl ?_
        refine v_iast C dX5_readNumber_82 rfl h.1.1 h.1.2 ?_
        replace h := h.2
        refine v_nmM (fun M82 eM82 => ?_)
        replace h := h M82 eM82
        refine v_aload_n C dX5_readNumber_83 rfl ?_
        refine v_get C dX5_readNumber_84 flX5_15 rfl (by decide) (by decide) (w := .inr (4, 0)) rfl ?_
        refine v_iload_n C dX5_readNumber_87 rfl ?_
        refine v_iload C dX5_readNumber_88 rfl ?_
        refine v_iast C dX5_readNumber_90 rfl h.1.1 h.1.2 ?_
        replace h := h.2
        refine v_nmM (fun M90 eM90 => ?_)
        replace h := h M90 eM90
        exact v_vret C dX5_readNumber_91 h
      · replace h := h.2 c28
        refine v_aload_n C dX5_readNumber_31 rfl ?_
        refine v_aload_n C dX5_readNumber_32 rfl ?_
        refine v_get C dX5_readNumber_33 flX5_23 rfl (by decide) (by decide) (w := .inl (M 2 0 3)) rfl ?_
        refine v_cald C dX5_readNumber_36 rfl h.1.1 h.1.2 ?_
        replace h := h.2
        refine v_bipush C dX5_readNumber_37 (by decide) (by decide) ?_
        refine v_icmp C dX5_readNumber_39 (tgt := 75) (by decide) (P := 57 < (M 1 0 (M 2 0 3))) rfl (fun c39 => ?_) (fun c39 => ?_)
        · replace h := h.1 c39
          refine v_aload_n C dX5_readNumber_75 rfl ?_
          refine v_get C dX5_readNumber_76 flX5_9 rfl (by decide) (by decide) (w := .inr (3, 0)) rfl ?_
          refine v_iload_n C dX5_readNumber_79 rfl ?_
          refine v_iload C dX5_readNumber_80 rfl ?_
          refine v_iast C dX5_readNumber_82 rfl h.1.1 h.1.2 ?_
          replace h := h.2
          refine v_nmM (fun M82 eM82 => ?_)
          replace h := h M82 eM82
          refine v_aload_n C dX5_readNumber_83 rfl ?_
          refine v_get C dX5_readNumber_84 flX5_15 rfl (by decide) (by decide) (w := .inr (4, 0)) rfl ?_
          refine v_iload_n C dX5_readNumber_87 rfl ?_
          refine v_iload C dX5_readNumber_88 rfl ?_
          refine v_iast C dX5_readNumber_90 rfl h.1.1 h.1.2 ?_
          replace h := h.2
          refine v_nmM (fun M90 eM90 => ?_)
          replace h := h M90 eM90
          exact v_vret C dX5_readNumber_91 h
        · replace h := h.2 c39
          refine v_iload C dX5_readNumber_42 rfl ?_
          refine v_bipush C dX5_readNumber_44 (by decide) (by decide) ?_
          refine v_imul C dX5_readNumber_46 h.1 ?_
          replace h := h.2
          refine v_aload_n C dX5_readNumber_47 rfl ?_
          refine v_aload_n C dX5_readNumber_48 rfl ?_
          refine v_get C dX5_readNumber_49 flX5_23 rfl (by decide) (by decide) (w := .inl (M 2 0 3)) rfl ?_
          refine v_cald C dX5_readNumber_52 rfl h.1.1 h.1.2 ?_
          replace h := h.2
          refine v_bipush C dX5_readNumber_53 (by decide) (by decide) ?_
          refine v_isub C dX5_readNumber_55 h.1 ?_
          replace h := h.2
          refine v_iadd C dX5_readNumber_56 h.1 ?_
          replace h := h.2
          refine v_nm (fun y4_57 ey4_57 => ?_)
          replace h := h y4_57 ey4_57
          refine v_istore C dX5_readNumber_57 (by decide) (Nat.le_of_ble_eq_true rfl) (lv' := [some (.inr (2, 0)), some (.inr (1, 0)), some (.inl x2), some (.inl x3), some (.inl y4_57), some (.inl x5)]) rfl ?_
          refine v_iinc C dX5_readNumber_59 (by decide) rfl h.1 (lv' := [some (.inr (2, 0)), some (.inr (1, 0)), some (.inl x2), some (.inl x3), some (.inl y4_57), some (.inl (x5 + 1))]) rfl ?_
          replace h := h.2
          refine v_aload_n C dX5_readNumber_62 rfl ?_
          refine v_dup C dX5_readNumber_63 ?_
          refine v_get C dX5_readNumber_64 flX5_23 rfl (by decide) (by decide) (w := .inl (M 2 0 3)) rfl ?_
          refine v_iconst C dX5_readNumber_67 (by decide) ?_
          refine v_iadd C dX5_readNumber_68 h.1 ?_
          replace h := h.2
          refine v_put C dX5_readNumber_69 plX5_23 rfl (by decide) (by decide) rfl rfl rfl ?_
          refine v_nmM (fun M69 eM69 => ?_)
          replace h := h M69 eM69
          refine v_goto C dX5_readNumber_72 (tgt := 6) (by decide) ?_
          refine v_weak [some (.inr (2, 0)), some (.inr (1, 0)), some (.inl x2), some (.inl x3), some (.inl y4_57), some (.inl (x5 + 1))] ⟨rfl, rfl, rfl, rfl, rfl, rfl, trivial⟩ ?_
          exact h
abbrev spX5_readNumber (L i : Int) (M : Mem) (K : Kont) : Prop := ((0 ≤ M 2 0 3 ∧ M 2 0 3 ≤ L ∧ L ≤ 200) ∧ (0 ≤ i ∧ i < 9)) ∧
  ∀ M', AgR M M' → M' 2 0 2 = M 2 0 2 → M' 2 0 3 = M 2 0 3 + dgc (M 1 0) L 3 (M 2 0 3) → M' 3 0 i = dgv (M 1 0) L 3 (M 2 0 3) 0 → M' 4 0 i = dgc (M 1 0) L 3 (M 2 0 3) → (∀ j, j ≠ i → M' 3 0 j = M 3 0 j ∧ M' 4 0 j = M 4 0 j) → K none M'
theorem ctX5_readNumber : CtX5_readNumber spX5_readNumber := by
  refine ct_of (by decide) dmC (fun _ => Nat.le_of_ble_eq_true rfl) ?_
  intro κ a M K C oM h
  obtain ⟨L, i⟩ := a
  dsimp only [spX5_readNumber] at h
  obtain ⟨⟨hL, hi⟩, hk⟩ := h
  refine sgX5_readNumber_0 C L i ?_
  have loop : ∀ (n : Nat) (v c : Int) (N : Mem), c + n = 3 → 0 ≤ c → (0 ≤ v ∧ v ≤ 999 ∧ (1 ≤ n → v ≤ 99)  ∧ (2 ≤ n → v ≤ 9) ∧ (3 ≤ n → v ≤ 0)) → AgR M N → N 2 0 2 = M 2 0 2 → (N 3 = M 3 ∧ N 4 = M 4) → N 2 0 3 = M 2 0 3 + c → N 2 0 3 ≤ L → dgc (M 1 0) L 3 (M 2 0 3) = c + dgc (M 1 0) L n (M 2 0 3 + c) → dgv (M 1 0) L 3 (M 2 0 3) 0 = dgv (M 1 0) L n (M 2 0 3 + c) v →
      V κ 6 N 6 [some (.inr (2, 0)), some (.inr (1, 0)), some (.inl L), some (.inl i), some (.inl v), some (.inl c)] [] K := by
    intro n
    induction n with
    | zero =>
      intro v c N hn hc hv hA h2 h34 hat haL hcc hvv
      have fin : (0 ≤ i ∧ i < 9) ∧ ∀ M82 : Mem, M82 = up3 N 3 0 i v → (0 ≤ i ∧ i < 9) ∧ ∀ M90 : Mem, M90 = up3 M82 4 0 i c → K none M90 := by
        refine ⟨hi, fun N1 e1 => ⟨hi, fun N2 e2 => ?_⟩⟩
        refine hk N2 (by rw [e2, e1]; exact (hA.up (by decide) _ _ _).up (by decide) _ _ _) ?_ ?_ ?_ ?_ ?_
        · rw [e2, up3_r _ _ _ _ _ (by decide), e1, up3_r _ _ _ _ _ (by decide)]; exact h2
        · rw [e2, up3_r _ _ _ _ _ (by decide), e1, up3_r _ _ _ _ _ (by decide), hat, hcc]; simp [dgc]
        · rw [e2, up3_r _ _ _ _ _ (by decide), e1, up3_s, hvv]; rfl
        · rw [e2, up3_s, hcc]; simp [dgc]
        · intro j hj
          rw [e2, up3_r _ _ _ _ _ (by decide), up3_j _ _ _ _ _ hj, e1, up3_j _ _ _ _ _ hj, up3_r _ _ _ _ _ (by decide), h34.1, h34.2]
          exact ⟨rfl, rfl⟩
      exact sgX5_readNumber_6 C L i v c ⟨fun _ => fin, fun z => absurd (by omega) z⟩
    | succ n ih =>
      intro v c N hn hc hv hA h2 h34 hat haL hcc hvv
      have hX : N 1 = M 1 := hA 1 (by omega)
      have fin : ¬ isF (M 1 0) L (M 2 0 3 + c) → (0 ≤ i ∧ i < 9) ∧ ∀ M82 : Mem, M82 = up3 N 3 0 i v → (0 ≤ i ∧ i < 9) ∧ ∀ M90 : Mem, M90 = up3 M82 4 0 i c → K none M90 := by
        intro hno
        have q1 : dgc (M 1 0) L (n + 1) (M 2 0 3 + c) = 0 := if_neg hno
        have q2 : dgv (M 1 0) L (n + 1) (M 2 0 3 + c) v = v := if_neg hno
        rw [q1] at hcc
        rw [q2] at hvv
        refine ⟨hi, fun N1 e1 => ⟨hi, fun N2 e2 => ?_⟩⟩
        have c3 : dgc (M 1 0) L 3 (M 2 0 3) = c := by omega
        have v3 : dgv (M 1 0) L 3 (M 2 0 3) 0 = v := hvv
        refine hk N2 (by rw [e2, e1]; exact (hA.up (by decide) _ _ _).up (by decide) _ _ _) ?_ ?_ ?_ ?_ ?_
        · rw [e2, up3_r _ _ _ _ _ (by decide), e1, up3_r _ _ _ _ _ (by decide)]; exact h2
        · rw [e2, up3_r _ _ _ _ _ (by decide), e1, up3_r _ _ _ _ _ (by decide), hat, c3]
        · rw [e2, up3_r _ _ _ _ _ (by decide), e1, up3_s, v3]
        · rw [e2, up3_s, c3]
        · intro j hj
          rw [e2, up3_r _ _ _ _ _ (by decide), up3_j _ _ _ _ _ hj, e1, up3_j _ _ _ _ _ hj, up3_r _ _ _ _ _ (by decide), h34.1, h34.2]
          exact ⟨rfl, rfl⟩
      have v9 : n ≤ 2 := by omega
      refine sgX5_readNumber_6 C L i v c ⟨fun z => absurd z (by omega), fun _ => ⟨fun z => fin (by rw [hat] at z; omega), fun c2 => ⟨by omega, fun c3 => fin (by rw [hX, hat] at c3; omega), fun c3 => ⟨by omega, fun c4 => fin (by rw [hX, hat] at c4; omega), fun c4 => ?_⟩⟩⟩⟩
      rw [hX, hat] at c3 c4 ⊢
      rw [hat] at c2
      have hyes : isF (M 1 0) L (M 2 0 3 + c) := ⟨by omega, by omega, by omega⟩
      refine ⟨by omega, by omega, by omega, by omega, fun y ey => ⟨by omega, by omega, fun N1 e1 => ?_⟩⟩
      have q1 : dgc (M 1 0) L (n + 1) (M 2 0 3 + c) = 1 + dgc (M 1 0) L n (M 2 0 3 + c + 1) := if_pos hyes
      have q2 : dgv (M 1 0) L (n + 1) (M 2 0 3 + c) v = dgv (M 1 0) L n (M 2 0 3 + c + 1) (v * 10 + (M 1 0 (M 2 0 3 + c) - 48)) := if_pos hyes
      rw [q1] at hcc
      rw [q2] at hvv
      have o34 : N1 3 = M 3 ∧ N1 4 = M 4 := by
        rw [← h34.1, ← h34.2]
        constructor
        · funext a b; rw [e1, up3_r _ _ _ _ _ (by decide)]
        · funext a b; rw [e1, up3_r _ _ _ _ _ (by decide)]
      refine ih y (c + 1) N1 (by omega) (by omega) ?_ (by rw [e1]; exact hA.up (by decide) _ _ _) ?_ o34 ?_ ?_ ?_ ?_
      · rcases (show n = 0 ∨ n = 1 ∨ n = 2 by omega) with q | q | q <;> subst q <;> omega
      · rw [e1, up3_j _ _ _ _ _ (by decide)]; exact h2
      · rw [e1, up3_s]; omega
      · rw [e1, up3_s]; omega
      · have e9 : M 2 0 3 + (c + 1) = M 2 0 3 + c + 1 := by omega
        rw [e9]
        omega
      · have e9 : M 2 0 3 + (c + 1) = M 2 0 3 + c + 1 := by omega
        rw [e9, ey]
        exact hvv
  exact loop 3 0 0 M (by omega) (by omega) (by omega) AgR.rf rfl ⟨rfl, rfl⟩ (by omega) (by omega) (by rw [Int.zero_add, Int.add_zero]) (by rw [Int.add_zero])
end
section
/-! ===== TextReader ===== -/
/-! ===== GapTellings$TextReader.readNumbers ===== -/
abbrev rmX5_readNumbers : Room := { frames := 1, cells := 0, slots := 0, locals := 25 }
abbrev argX5_readNumbers (a : Int) : List PV := [.inr (2, 0), .inr (1, 0), .inl a]
abbrev CtX5_readNumbers (sp : Int → Mem → Kont → Prop) : Prop := Ct yX5_readNumbers cX5_readNumbers 5 (some .boolean) rmX5_readNumbers domC argX5_readNumbers (fun a => sp a)
theorem dX5_readNumbers_0 : decode cX5_readNumbers 0 = .ok (.aload_n 0, 1) := by decide +kernel
theorem dX5_readNumbers_1 : decode cX5_readNumbers 1 = .ok (.dup, 1) := by decide +kernel
theorem dX5_readNumbers_2 : decode cX5_readNumbers 2 = .ok (.getfield 23, 3) := by decide +kernel
theorem dX5_readNumbers_5 : decode cX5_readNumbers 5 = .ok (.iconst 1, 1) := by decide +kernel
theorem dX5_readNumbers_6 : decode cX5_readNumbers 6 = .ok (.iadd, 1) := by decide +kernel
theorem dX5_readNumbers_7 : decode cX5_readNumbers 7 = .ok (.putfield 23, 3) := by decide +kernel
theorem dX5_readNumbers_10 : decode cX5_readNumbers 10 = .ok (.iconst 0, 1) := by decide +kernel
theorem dX5_readNumbers_11 : decode cX5_readNumbers 11 = .ok (.istore_n 3, 1) := by decide +kernel
theorem dX5_readNumbers_12 : decode cX5_readNumbers 12 = .ok (.iload_n 3, 1) := by decide +kernel
theorem dX5_readNumbers_13 : decode cX5_readNumbers 13 = .ok (.bipush 9, 2) := by decide +kernel
theorem dX5_readNumbers_15 : decode cX5_readNumbers 15 = .ok (.if_icmp .ge 78, 3) := by decide +kernel
theorem dX5_readNumbers_18 : decode cX5_readNumbers 18 = .ok (.aload_n 0, 1) := by decide +kernel
theorem dX5_readNumbers_19 : decode cX5_readNumbers 19 = .ok (.aload_n 1, 1) := by decide +kernel
theorem dX5_readNumbers_20 : decode cX5_readNumbers 20 = .ok (.iload_n 2, 1) := by decide +kernel
theorem dX5_readNumbers_21 : decode cX5_readNumbers 21 = .ok (.iload_n 3, 1) := by decide +kernel
theorem dX5_readNumbers_22 : decode cX5_readNumbers 22 = .ok (.invokevirtual 35, 3) := by decide +kernel
theorem dX5_readNumbers_25 : decode cX5_readNumbers 25 = .ok (.aload_n 0, 1) := by decide +kernel
theorem dX5_readNumbers_26 : decode cX5_readNumbers 26 = .ok (.getfield 15, 3) := by decide +kernel
theorem dX5_readNumbers_29 : decode cX5_readNumbers 29 = .ok (.iload_n 3, 1) := by decide +kernel
theorem dX5_readNumbers_30 : decode cX5_readNumbers 30 = .ok (.iaload, 1) := by decide +kernel
theorem dX5_readNumbers_31 : decode cX5_readNumbers 31 = .ok (.ifCond .eq 11, 3) := by decide +kernel
theorem dX5_readNumbers_34 : decode cX5_readNumbers 34 = .ok (.aload_n 0, 1) := by decide +kernel
theorem dX5_readNumbers_35 : decode cX5_readNumbers 35 = .ok (.getfield 23, 3) := by decide +kernel
theorem dX5_readNumbers_38 : decode cX5_readNumbers 38 = .ok (.iload_n 2, 1) := by decide +kernel
theorem dX5_readNumbers_39 : decode cX5_readNumbers 39 = .ok (.if_icmp .lt 5, 3) := by decide +kernel
theorem dX5_readNumbers_42 : decode cX5_readNumbers 42 = .ok (.iconst 0, 1) := by decide +kernel
theorem dX5_readNumbers_43 : decode cX5_readNumbers 43 = .ok (.ireturn, 1) := by decide +kernel
theorem dX5_readNumbers_44 : decode cX5_readNumbers 44 = .ok (.aload_n 0, 1) := by decide +kernel
theorem dX5_readNumbers_45 : decode cX5_readNumbers 45 = .ok (.iload_n 3, 1) := by decide +kernel
theorem dX5_readNumbers_46 : decode cX5_readNumbers 46 = .ok (.iconst 1, 1) := by decide +kernel
theorem dX5_readNumbers_47 : decode cX5_readNumbers 47 = .ok (.iadd, 1) := by decide +kernel
theorem dX5_readNumbers_48 : decode cX5_readNumbers 48 = .ok (.putfield 39, 3) := by decide +kernel
theorem dX5_readNumbers_51 : decode cX5_readNumbers 51 = .ok (.aload_n 1, 1) := by decide +kernel
theorem dX5_readNumbers_52 : decode cX5_readNumbers 52 = .ok (.aload_n 0, 1) := by decide +kernel
theorem dX5_readNumbers_53 : decode cX5_readNumbers 53 = .ok (.getfield 23, 3) := by decide +kernel
theorem dX5_readNumbers_56 : decode cX5_readNumbers 56 = .ok (.caload, 1) := by decide +kernel
theorem dX5_readNumbers_57 : decode cX5_readNumbers 57 = .ok (.istore 4, 2) := by decide +kernel
theorem dX5_readNumbers_59 : decode cX5_readNumbers 59 = .ok (.aload_n 0, 1) := by decide +kernel
theorem dX5_readNumbers_60 : decode cX5_readNumbers 60 = .ok (.dup, 1) := by decide +kernel
theorem dX5_readNumbers_61 : decode cX5_readNumbers 61 = .ok (.getfield 23, 3) := by decide +kernel
theorem dX5_readNumbers_64 : decode cX5_readNumbers 64 = .ok (.iconst 1, 1) := by decide +kernel
theorem dX5_readNumbers_65 : decode cX5_readNumbers 65 = .ok (.iadd, 1) := by decide +kernel
theorem dX5_readNumbers_66 : decode cX5_readNumbers 66 = .ok (.putfield 23, 3) := by decide +kernel
theorem dX5_readNumbers_69 : decode cX5_readNumbers 69 = .ok (.iload 4, 2) := by decide +kernel
theorem dX5_readNumbers_71 : decode cX5_readNumbers 71 = .ok (.bipush 59, 2) := by decide +kernel
theorem dX5_readNumbers_73 : decode cX5_readNumbers 73 = .ok (.if_icmp .ne 5, 3) := by decide +kernel
theorem dX5_readNumbers_76 : decode cX5_readNumbers 76 = .ok (.iconst 1, 1) := by decide +kernel
theorem dX5_readNumbers_77 : decode cX5_readNumbers 77 = .ok (.ireturn, 1) := by decide +kernel
theorem dX5_readNumbers_78 : decode cX5_readNumbers 78 = .ok (.iload 4, 2) := by decide +kernel
theorem dX5_readNumbers_80 : decode cX5_readNumbers 80 = .ok (.bipush 44, 2) := by decide +kernel
theorem dX5_readNumbers_82 : decode cX5_readNumbers 82 = .ok (.if_icmp .eq 5, 3) := by decide +kernel
theorem dX5_readNumbers_85 : decode cX5_readNumbers 85 = .ok (.iconst 0, 1) := by decide +kernel
theorem dX5_readNumbers_86 : decode cX5_readNumbers 86 = .ok (.ireturn, 1) := by decide +kernel
theorem dX5_readNumbers_87 : decode cX5_readNumbers 87 = .ok (.iinc 3 1, 3) := by decide +kernel
theorem dX5_readNumbers_90 : decode cX5_readNumbers 90 = .ok (.goto (-78), 3) := by decide +kernel
theorem dX5_readNumbers_93 : decode cX5_readNumbers 93 = .ok (.iconst 0, 1) := by decide +kernel
theorem dX5_readNumbers_94 : decode cX5_readNumbers 94 = .ok (.ireturn, 1) := by decide +kernel
theorem ivX5_35 : IV RX5 35 yX5_readNumber cX5_readNumber 6 none 3 := ⟨(tb_mem (t_in2 (List.mem_of_getElem? (i := 88) (by decide +kernel))) (by decide +kernel)), (tb_mem (t_in2 (List.mem_of_getElem? (i := 89) (by decide +kernel))) (by decide +kernel)), (tb_mem (t_in2 (List.mem_of_getElem? (i := 90) (by decide +kernel))) (by decide +kernel)), (tb_mem (t_in1 (List.mem_of_getElem? (i := 2) (by decide +kernel))) (by decide +kernel)), (tb_mem (t_in2 (List.mem_of_getElem? (i := 91) (by decide +kernel))) (by decide +kernel)), ⟨by decide +kernel, by decide +kernel, by decide +kernel⟩⟩
theorem plX5_39 : PL RX5 39 5 2 .int := ⟨_, _, _, rfl, by decide, uwX5, Or.inl (tb_mem (t_in1 (List.mem_of_getElem? (i := 35) (by decide +kernel))) (by decide +kernel)), rfl, by decide +kernel, tyX5, tyX5_ok, nmX5⟩
set_option maxHeartbeats 4000000 in
set_option maxRecDepth 20000 in
theorem sgX5_readNumbers_0 {κ : Kx} {K : Kont} {M : Mem} (C : Cx κ RX5 cX5_readNumbers 5 (some .boolean) rmX5_readNumbers domC) (x2 : Int)
    (h :
    inR ((M 2 0 3) + 1) ∧
    ∀ M7 : Mem, M7 = up3 M 2 0 3 ((M 2 0 3) + 1) →
    V κ 5 M7 12 [some (.inr (2, 0)), some (.inr (1, 0)), some (.inl x2), some (.inl 0), none] [] K) : V κ 5 M 0 [some (.inr (2, 0)), some (.inr (1, 0)), some (.inl x2), none, none] [] K := by
  refine v_aload_n C dX5_readNumbers_0 rfl ?_
  refine v_dup C dX5_readNumbers_1 ?_
  refine v_get C dX5_readNumbers_2 flX5_23 rfl (by decide) (by decide) (w := .inl (M 2 0 3)) rfl ?_
  refine v_iconst C dX5_readNumbers_5 (by decide) ?_
  refine v_iadd C dX5_readNumbers_6 h.1 ?_
  replace h := h.2
  refine v_put C dX5_readNumbers_7 plX5_23 rfl (by decide) (by decide) rfl rfl rfl ?_
  refine v_nmM (fun M7 eM7 => ?_)
  replace h := h M7 eM7
  refine v_iconst C dX5_readNumbers_10 (by decide) ?_
  refine v_istore_n C dX5_readNumbers_11 (by decide) (Nat.le_of_ble_eq_true rfl) (lv' := [some (.inr (2, 0)), some (.inr (1, 0)), some (.inl x2), some (.inl 0), none]) rfl ?_
  refine v_weak [some (.inr (2, 0)), some (.inr (1, 0)), some (.inl x2), some (.inl 0), none] ⟨rfl, rfl, rfl, rfl, trivial⟩ ?_
  exact h
set_option maxHeartbeats 4000000 in
set_option maxRecDepth 20000 in
theorem sgX5_readNumbers_12 {κ : Kx} {K : Kont} {M : Mem} (C : Cx κ RX5 cX5_readNumbers 5 (some .boolean) rmX5_readNumbers domC) (x2 : Int) (x3 : Int)
    (h :
    ((9 ≤ x3 →
      K (some 0) M) ∧
     (¬ (9 ≤ x3) →
      spX5_readNumber x2 x3 M (rV (fun M22 =>
      (0 ≤ x3 ∧ x3 < 9) ∧
      (((M22 4 0 x3) = 0 →
        K (some 0) M22) ∧
       (¬ ((M22 4 0 x3) = 0) →
        (((M22 2 0 3) < x2 →
          inR (x3 + 1) ∧
          ∀ M48 : Mem, M48 = up3 M22 2 0 2 (x3 + 1) →
          (0 ≤ (M48 2 0 3) ∧ (M48 2 0 3) < 200) ∧
          ∀ y4_57 : Int, y4_57 = M48 1 0 (M48 2 0 3) →
          inR ((M48 2 0 3) + 1) ∧
          ∀ M66 : Mem, M66 = up3 M48 2 0 3 ((M48 2 0 3) + 1) →
          ((y4_57 ≠ 59 →
            ((y4_57 = 44 →
              inR (x3 + 1) ∧
              V κ 5 M66 12 [some (.inr (2, 0)), some (.inr (1, 0)), some (.inl x2), some (.inl (x3 + 1)), none] [] K) ∧
             (¬ (y4_57 = 44) →
              K (some 0) M66))) ∧
           (¬ (y4_57 ≠ 59) →
            K (some 1) M66))) ∧
         (¬ ((M22 2 0 3) < x2) →
          K (some 0) M22))))))))) : V κ 5 M 12 [some (.inr (2, 0)), some (.inr (1, 0)), some (.inl x2), some (.inl x3), none] [] K := by
  refine v_iload_n C dX5_readNumbers_12 rfl ?_
  refine v_bipush C dX5_readNumbers_13 (by decide) (by decide) ?_
  refine v_icmp C dX5_readNumbers_15 (tgt := 93) (by decide) (P := 9 ≤ x3) rfl (fun c15 => ?_) (fun c15 => ?_)
  · replace h := h.1 c15
    refine v_iconst C dX5_readNumbers_93 (by decide) ?_
    exact v_zret C dX5_readNumbers_94 (by decide) h
  · replace h := h.2 c15
    refine v_aload_n C dX5_readNumbers_18 rfl ?_
    refine v_aload_n C dX5_readNumbers_19 rfl ?_
    refine v_iload_n C dX5_readNumbers_20 rfl ?_
    refine v_iload_n C dX5_readNumbers_21 rfl ?_
    refine v_invV C ctX5_readNumber dX5_readNumbers_22 ivX5_35 ⟨by decide, by decide, rfl, rfl⟩ ((x2, x3) : Int × Int) (As := [.inr (1, 0), .inl x2, .inl x3]) rfl rfl rfl (by decide) rfl (st := []) rfl (Nat.le_of_ble_eq_true rfl) h (fun o M22 oM22 io22 h => ?_)
    obtain ⟨rfl, h⟩ := rV_out h
    refine v_push0 ?_
    refine v_aload_n C dX5_readNumbers_25 rfl ?_
    refine v_get C dX5_readNumbers_26 flX5_15 rfl (by decide) (by decide) (w := .inr (4, 0)) rfl ?_
    refine v_iload_n C dX5_readNumbers_29 rfl ?_
    refine v_iald C dX5_readNumbers_30 rfl h.1.1 h.1.2 ?_
    replace h := h.2
    refine v_if C dX5_readNumbers_31 (tgt := 42) (by decide) (P := (M22 4 0 x3) = 0) rfl (fun c31 => ?_) (fun c31 => ?_)
    · replace h := h.1 c31
      refine v_iconst C dX5_readNumbers_42 (by decide) ?_
      exact v_zret C dX5_readNumbers_43 (by decide) h
    · replace h := h.2 c31
      refine v_aload_n C dX5_readNumbers_34 rfl ?_
      refine v_get C dX5_readNumbers_35 flX5_23 rfl (by decide) (by decide) (w := .inl (M22 2 0 3)) rfl ?_
      refine v_iload_n C dX5_readNumbers_38 rfl ?_
      refine v_icmp C dX5_readNumbers_39 (tgt := 44) (by decide) (P := (M22 2 0 3) < x2) rfl (fun c39 => ?_) (fun c39 => ?_)
      · replace h := h.1 c39
        refine v_aload_n C dX5_readNumbers_44 rfl ?_
        refine v_iload_n C dX5_readNumbers_45 rfl ?_
        refine v_iconst C dX5_readNumbers_46 (by decide) ?_
        refine v_iadd C dX5_readNumbers_47 h.1 ?_
        replace h := h.2
        refine v_put C dX5_readNumbers_48 plX5_39 rfl (by decide) (by decide) rfl rfl rfl ?_
        refine v_nmM (fun M48 eM48 => ?_)
        replace h := h M48 eM48
        refine v_aload_n C dX5_readNumbers_51 rfl ?_
        refine v_aload_n C dX5_readNumbers_52 rfl ?_
        refine v_get C dX5_readNumbers_53 flX5_23 rfl (by decide) (by decide) (w := .inl (M48 2 0 3)) rfl ?_
        refine v_cald C dX5_readNumbers_56 rfl h.1.1 h.1.2 ?_
        replace h := h.2
        refine v_nm (fun y4_57 ey4_57 => ?_)
        replace h := h y4_57 ey4_57
        refine v_istore C dX5_readNumbers_57 (by decide) (Nat.le_of_ble_eq_true rfl) (lv' := [some (.inr (2, 0)), some (.inr (1, 0)), some (.inl x2), some (.inl x3), some (.inl y4_57)]) rfl ?_
        refine v_aload_n C dX5_readNumbers_59 rfl ?_
        refine v_dup C dX5_readNumbers_60 ?_
        refine v_get C dX5_readNumbers_61 flX5_23 rfl (by decide) (by decide) (w := .inl (M48 2 0 3)) rfl ?_
        refine v_iconst C dX5_readNumbers_64 (by decide) ?_
        refine v_iadd C dX5_readNumbers_65 h.1 ?_
        replace h := h.2
        refine v_put C dX5_readNumbers_66 plX5_23 rfl (by decide) (by decide) rfl rfl rfl ?_
        refine v_nmM (fun M66 eM66 => ?_)
        replace h := h M66 eM66
        refine v_iload C dX5_readNumbers_69 rfl ?_
        refine v_bipush C dX5_readNumbers_71 (by decide) (by decide) ?_
        refine v_icmp C dX5_readNumbers_73 (tgt := 78) (by decide) (P := y4_57 ≠ 59) rfl (fun c73 => ?_) (fun c73 => ?_)
        · replace h := h.1 c73
          refine v_iload C dX5_readNumbers_78 rfl ?_
          refine v_bipush C dX5_readNumbers_80 (by decide) (by decide) ?_
          refine v_icmp C dX5_readNumbers_82 (tgt := 87) (by decide) (P := y4_57 = 44) rfl (fun c82 => ?_) (fun c82 => ?_)
          · replace h := h.1 c82
            refine v_iinc C dX5_readNumbers_87 (by decide) rfl h.1 (lv' := [some (.inr (2, 0)), some (.inr (1, 0)), some (.inl x2), some (.inl (x3 + 1)), some (.inl y4_57)]) rfl ?_
            replace h := h.2
            refine v_goto C dX5_readNumbers_90 (tgt := 12) (by decide) ?_
            refine v_weak [some (.inr (2, 0)), some (.inr (1, 0)), some (.inl x2), some (.inl (x3 + 1)), none] ⟨rfl, rfl, rfl, rfl, trivial⟩ ?_
            exact h
          · replace h := h.2 c82
            refine v_iconst C dX5_readNumbers_85 (by decide) ?_
            exact v_zret C dX5_readNumbers_86 (by decide) h
        · replace h := h.2 c73
          refine v_iconst C dX5_readNumbers_76 (by decide) ?_
          exact v_zret C dX5_readNumbers_77 (by decide) h
      · replace h := h.2 c39
        refine v_iconst C dX5_readNumbers_42 (by decide) ?_
        exact v_zret C dX5_readNumbers_43 (by decide) h
abbrev spX5_readNumbers (L : Int) (M : Mem) (K : Kont) : Prop := (0 ≤ M 2 0 3 ∧ M 2 0 3 < L ∧ L ≤ 200) ∧
  (∀ M', AgR M M' → tks (M 1 0) L 9 (M 2 0 3 + 1) = none → K (some 0) M') ∧
  (∀ M' l e, AgR M M' → tks (M 1 0) L 9 (M 2 0 3 + 1) = some (l, e) → M' 2 0 2 = l.length → M' 2 0 3 = e → (∀ k : Nat, k < l.length → M' 3 0 k = (l.getD k (0, 0)).1 ∧ M' 4 0 k = (l.getD k (0, 0)).2) → K (some 1) M')
theorem ctX5_readNumbers : CtX5_readNumbers spX5_readNumbers := by
  refine ct_of (by decide) dmC (fun _ => Nat.le_of_ble_eq_true rfl) ?_
  intro κ L M K C oM h
  dsimp only [spX5_readNumbers] at h
  obtain ⟨hL, hk1, hk2⟩ := h
  have loop : ∀ (n i : Nat) (N : Mem) (pre : List (Int × Int)), i + n = 9 → pre.length = i → AgR M N → (0 ≤ N 2 0 3 ∧ N 2 0 3 ≤ L) → (∀ k : Nat, k < i → N 3 0 k = (pre.getD k (0, 0)).1 ∧ N 4 0 k = (pre.getD k (0, 0)).2) →
      (tks (M 1 0) L 9 (M 2 0 3 + 1) = (tks (M 1 0) L n (N 2 0 3)).map (fun q => (pre ++ q.1, q.2))) →
      V κ 5 N 12 [some (.inr (2, 0)), some (.inr (1, 0)), some (.inl L), some (.inl (i : Int)), none] [] K := by
    intro n
    induction n with
    | zero =>
      intro i N pre hn hp hA hat hnum ht
      refine sgX5_readNumbers_12 C L i ⟨fun c => hk1 N hA (by rw [ht]; rfl), fun c => absurd (by omega) c⟩
    | succ n ih =>
      intro i N pre hn hp hA hat hnum ht
      have hX : N 1 = M 1 := hA 1 (by omega)
      refine sgX5_readNumbers_12 C L i ⟨fun c => absurd c (by omega), fun c => ⟨⟨⟨hat.1, hat.2, hL.2.2⟩, by omega⟩, ?_⟩⟩
      intro N1 hA1 r2 r3 r30 r40 ro
      rw [hX] at r3 r30 r40
      have hc := dgc_rng (M 1 0) L 3 (N 2 0 3)
      have hv := dgv_rng (M 1 0) L 3 (N 2 0 3) 0 0 (by omega) (by omega)
      have hX1 : N1 1 = M 1 := by rw [hA1 1 (by omega), hX]
      have tq : tks (M 1 0) L (n + 1) (N 2 0 3) = if dgc (M 1 0) L 3 (N 2 0 3) = 0 ∨ L ≤ N 2 0 3 + dgc (M 1 0) L 3 (N 2 0 3) then none
          else if M 1 0 (N 2 0 3 + dgc (M 1 0) L 3 (N 2 0 3)) = 59 then some ([(dgv (M 1 0) L 3 (N 2 0 3) 0, dgc (M 1 0) L 3 (N 2 0 3))], N 2 0 3 + dgc (M 1 0) L 3 (N 2 0 3) + 1)
          else if M 1 0 (N 2 0 3 + dgc (M 1 0) L 3 (N 2 0 3)) = 44 then (tks (M 1 0) L n (N 2 0 3 + dgc (M 1 0) L 3 (N 2 0 3) + 1)).map (fun q => ((dgv (M 1 0) L 3 (N 2 0 3) 0, dgc (M 1 0) L 3 (N 2 0 3)) :: q.1, q.2))
          else none := rfl
      rw [tq] at ht
      generalize dgc (M 1 0) L 3 (N 2 0 3) = dc at *
      generalize dgv (M 1 0) L 3 (N 2 0 3) 0 = dv at *
      refine ⟨by omega, fun c2 => ?_, fun c2 => ⟨fun c3 => ⟨by omega, fun N2 e2 => ?_⟩, fun c3 => ?_⟩⟩
      · rw [if_pos (Or.inl (by omega))] at ht
        exact hk1 N1 (hA.tr hA1) (by rw [ht]; rfl)
      · rw [if_neg (by omega)] at ht
        have at2 : N2 2 0 3 = N 2 0 3 + dc := by rw [e2, up3_j _ _ _ _ _ (by decide)]; exact r3
        have x2 : N2 1 0 (N2 2 0 3) = M 1 0 (N 2 0 3 + dc) := by rw [at2, e2, up3_r _ _ _ _ _ (by decide), hX1]
        refine ⟨by omega, fun y ey => ⟨by omega, fun N3 e3 => ?_⟩⟩
        rw [x2] at ey
        have at3 : N3 2 0 3 = N 2 0 3 + dc + 1 := by rw [e3, up3_s, at2]
        have hA3 : AgR M N3 := by rw [e3, e2]; exact ((hA.tr hA1).up (by decide) _ _ _).up (by decide) _ _ _
        have f3 : N3 2 0 2 = i + 1 := by rw [e3, up3_j _ _ _ _ _ (by decide), e2, up3_s]
        have nums : ∀ k : Nat, k < i + 1 → N3 3 0 k = ((pre ++ [(dv, dc)]).getD k (0, 0)).1 ∧ N3 4 0 k = ((pre ++ [(dv, dc)]).getD k (0, 0)).2 := by
          intro k hk
          rw [e3, up3_r _ _ _ _ _ (by decide), up3_r _ _ _ _ _ (by decide), e2, up3_r _ _ _ _ _ (by decide), up3_r _ _ _ _ _ (by decide)]
          by_cases e : k = i
          · subst e
            rw [r30, r40, List.getD_eq_getElem?_getD, List.getElem?_append_right (by omega), hp]
            simp
          · have hk2 : k < pre.length := by omega
            have := ro k (by omega)
            rw [this.1, this.2, List.getD_eq_getElem?_getD, List.getElem?_append_left hk2, ← List.getD_eq_getElem?_getD]
            exact hnum k (by omega)
        refine ⟨fun c4 => ⟨fun c5 => ⟨by omega, ?_⟩, fun c5 => ?_⟩, fun c4 => ?_⟩
        · rw [if_neg (by omega), if_pos (by omega)] at ht
          have := ih (i + 1) N3 (pre ++ [(dv, dc)]) (by omega) (by simp [hp]) hA3 (by omega) nums ?_
          · exact this
          · rw [ht, at3]
            cases tks (M 1 0) L n (N 2 0 3 + dc + 1) with
            | none => rfl
            | some q => simp
        · rw [if_neg (by omega), if_neg (by omega)] at ht
          exact hk1 N3 hA3 (by rw [ht]; rfl)
        · rw [if_pos (by omega)] at ht
          have ht' : tks (M 1 0) L 9 (M 2 0 3 + 1) = some (pre ++ [(dv, dc)], N 2 0 3 + dc + 1) := by rw [ht]; rfl
          refine hk2 N3 _ _ hA3 ht' (by rw [f3]; simp [hp]) at3 ?_
          intro k hk
          exact nums k (by simp [hp] at hk; omega)
      · rw [if_pos (Or.inr (by omega))] at ht
        exact hk1 N1 (hA.tr hA1) (by rw [ht]; rfl)
  refine sgX5_readNumbers_0 C L ⟨by omega, fun N eN => ?_⟩
  have at1 : N 2 0 3 = M 2 0 3 + 1 := by rw [eN, up3_s]
  refine loop 9 0 N [] (by omega) rfl (by rw [eN]; exact AgR.rf.up (by decide) _ _ _) (by omega) (fun k hk => by omega) ?_
  rw [at1]
  cases tks (M 1 0) L 9 (M 2 0 3 + 1) with
  | none => rfl
  | some q => simp
/-- the reader holds these numbers -/
def RdK (M : Mem) (l : List (Int × Int)) : Prop := M 2 0 2 = l.length ∧ (1 ≤ l.length ∧ l.length ≤ 9) ∧ (∀ q ∈ l, (0 ≤ q.1 ∧ q.1 ≤ 999) ∧ (1 ≤ q.2 ∧ q.2 ≤ 3)) ∧ ∀ k : Nat, k < l.length → M 3 0 k = (l.getD k (0, 0)).1 ∧ M 4 0 k = (l.getD k (0, 0)).2
theorem RdK.at {M : Mem} {l : List (Int × Int)} (h : RdK M l) {k : Nat} (hk : k < l.length) : (M 3 0 k = (l.getD k (0, 0)).1 ∧ M 4 0 k = (l.getD k (0, 0)).2) ∧ (0 ≤ (l.getD k (0, 0)).1 ∧ (l.getD k (0, 0)).1 ≤ 999) ∧ (1 ≤ (l.getD k (0, 0)).2 ∧ (l.getD k (0, 0)).2 ≤ 3) := by
  have e : l.getD k (0, 0) = l[k] := by rw [List.getD_eq_getElem?_getD, List.getElem?_eq_getElem hk]; rfl
  have := h.2.2.1 (l.getD k (0, 0)) (by rw [e]; exact List.getElem_mem hk)
  exact ⟨h.2.2.2 k hk, this.1, this.2⟩
/-! ===== GapTellings$TextReader.allShort ===== -/
abbrev rmX5_allShort : Room := { frames := 0, cells := 0, slots := 0, locals := 0 }
abbrev argX5_allShort (a : Unit) : List PV := [.inr (2, 0)]
abbrev CtX5_allShort (sp : Mem → Kont → Prop) : Prop := Ct yX5_allShort cX5_allShort 2 (some .boolean) rmX5_allShort domC argX5_allShort (fun _ => sp)
theorem dX5_allShort_0 : decode cX5_allShort 0 = .ok (.iconst 0, 1) := by decide +kernel
theorem dX5_allShort_1 : decode cX5_allShort 1 = .ok (.istore_n 1, 1) := by decide +kernel
theorem dX5_allShort_2 : decode cX5_allShort 2 = .ok (.iload_n 1, 1) := by decide +kernel
theorem dX5_allShort_3 : decode cX5_allShort 3 = .ok (.aload_n 0, 1) := by decide +kernel
theorem dX5_allShort_4 : decode cX5_allShort 4 = .ok (.getfield 39, 3) := by decide +kernel
theorem dX5_allShort_7 : decode cX5_allShort 7 = .ok (.if_icmp .ge 21, 3) := by decide +kernel
theorem dX5_allShort_10 : decode cX5_allShort 10 = .ok (.aload_n 0, 1) := by decide +kernel
theorem dX5_allShort_11 : decode cX5_allShort 11 = .ok (.getfield 15, 3) := by decide +kernel
theorem dX5_allShort_14 : decode cX5_allShort 14 = .ok (.iload_n 1, 1) := by decide +kernel
theorem dX5_allShort_15 : decode cX5_allShort 15 = .ok (.iaload, 1) := by decide +kernel
theorem dX5_allShort_16 : decode cX5_allShort 16 = .ok (.iconst 2, 1) := by decide +kernel
theorem dX5_allShort_17 : decode cX5_allShort 17 = .ok (.if_icmp .le 5, 3) := by decide +kernel
theorem dX5_allShort_20 : decode cX5_allShort 20 = .ok (.iconst 0, 1) := by decide +kernel
theorem dX5_allShort_21 : decode cX5_allShort 21 = .ok (.ireturn, 1) := by decide +kernel
theorem dX5_allShort_22 : decode cX5_allShort 22 = .ok (.iinc 1 1, 3) := by decide +kernel
theorem dX5_allShort_25 : decode cX5_allShort 25 = .ok (.goto (-23), 3) := by decide +kernel
theorem dX5_allShort_28 : decode cX5_allShort 28 = .ok (.iconst 1, 1) := by decide +kernel
theorem dX5_allShort_29 : decode cX5_allShort 29 = .ok (.ireturn, 1) := by decide +kernel
theorem flX5_39 : FL RX5 39 5 2 := ⟨_, _, _, rfl, by decide, uwX5, Or.inl (tb_mem (t_in1 (List.mem_of_getElem? (i := 35) (by decide +kernel))) (by decide +kernel))⟩
set_option maxHeartbeats 4000000 in
set_option maxRecDepth 20000 in
theorem sgX5_allShort_0 {κ : Kx} {K : Kont} {M : Mem} (C : Cx κ RX5 cX5_allShort 2 (some .boolean) rmX5_allShort domC) 
    (h :
    V κ 2 M 2 [some (.inr (2, 0)), some (.inl 0)] [] K) : V κ 2 M 0 [some (.inr (2, 0)), none] [] K := by
  refine v_iconst C dX5_allShort_0 (by decide) ?_
  refine v_istore_n C dX5_allShort_1 (by decide) (Nat.le_of_ble_eq_true rfl) (lv' := [some (.inr (2, 0)), some (.inl 0)]) rfl ?_
  refine v_weak [some (.inr (2, 0)), some (.inl 0)] ⟨rfl, rfl, trivial⟩ ?_
  exact h
set_option maxHeartbeats 4000000 in
set_option maxRecDepth 20000 in
theorem sgX5_allShort_2 {κ : Kx} {K : Kont} {M : Mem} (C : Cx κ RX5 cX5_allShort 2 (some .boolean) rmX5_allShort domC) (x1 : Int)
    (h :
    (((M 2 0 2) ≤ x1 →
      K (some 1) M) ∧
     (¬ ((M 2 0 2) ≤ x1) →
      (0 ≤ x1 ∧ x1 < 9) ∧
      (((M 4 0 x1) ≤ 2 →
        inR (x1 + 1) ∧
        V κ 2 M 2 [some (.inr (2, 0)), some (.inl (x1 + 1))] [] K) ∧
       (¬ ((M 4 0 x1) ≤ 2) →
        K (some 0) M))))) : V κ 2 M 2 [some (.inr (2, 0)), some (.inl x1)] [] K := by
  refine v_iload_n C dX5_allShort_2 rfl ?_
  refine v_aload_n C dX5_allShort_3 rfl ?_
  refine v_get C dX5_allShort_4 flX5_39 rfl (by decide) (by decide) (w := .inl (M 2 0 2)) rfl ?_
  refine v_icmp C dX5_allShort_7 (tgt := 28) (by decide) (P := (M 2 0 2) ≤ x1) rfl (fun c7 => ?_) (fun c7 => ?_)
  · replace h := h.1 c7
    refine v_iconst C dX5_allShort_28 (by decide) ?_
    exact v_zret C dX5_allShort_29 (by decide) h
  · replace h := h.2 c7
    refine v_aload_n C dX5_allShort_10 rfl ?_
    refine v_get C dX5_allShort_11 flX5_15 rfl (by decide) (by decide) (w := .inr (4, 0)) rfl ?_
    refine v_iload_n C dX5_allShort_14 rfl ?_
    refine v_iald C dX5_allShort_15 rfl h.1.1 h.1.2 ?_
    replace h := h.2
    refine v_iconst C dX5_allShort_16 (by decide) ?_
    refine v_icmp C dX5_allShort_17 (tgt := 22) (by decide) (P := (M 4 0 x1) ≤ 2) rfl (fun c17 => ?_) (fun c17 => ?_)
    · replace h := h.1 c17
      refine v_iinc C dX5_allShort_22 (by decide) rfl h.1 (lv' := [some (.inr (2, 0)), some (.inl (x1 + 1))]) rfl ?_
      replace h := h.2
      refine v_goto C dX5_allShort_25 (tgt := 2) (by decide) ?_
      refine v_weak [some (.inr (2, 0)), some (.inl (x1 + 1))] ⟨rfl, rfl, trivial⟩ ?_
      exact h
    · replace h := h.2 c17
      refine v_iconst C dX5_allShort_20 (by decide) ?_
      exact v_zret C dX5_allShort_21 (by decide) h
def shortB (l : List (Int × Int)) : Bool := l.all (fun q => decide (q.2 ≤ 2))
def aN (l : List (Int × Int)) (k : Nat) : Int := (l.getD k (0, 0)).1
def cN (l : List (Int × Int)) (k : Nat) : Int := (l.getD k (0, 0)).2
theorem short_iff (l : List (Int × Int)) : shortB l = true ↔ ∀ k : Nat, k < l.length → cN l k ≤ 2 := by
  unfold shortB cN
  rw [List.all_eq_true]
  constructor
  · intro h k hk
    have e : l.getD k (0, 0) = l[k] := by rw [List.getD_eq_getElem?_getD, List.getElem?_eq_getElem hk]; rfl
    rw [e]
    exact of_decide_eq_true (h l[k] (List.getElem_mem hk))
  · intro h q hq
    obtain ⟨k, hk, e⟩ := List.getElem_of_mem hq
    have := h k hk
    have e2 : l.getD k (0, 0) = l[k] := by rw [List.getD_eq_getElem?_getD, List.getElem?_eq_getElem hk]; rfl
    rw [e2, e] at this
    exact decide_eq_true this
abbrev spX5_allShort (M : Mem) (K : Kont) : Prop := ∃ l, RdK M l ∧ K (some (if shortB l then 1 else 0)) M
theorem ctX5_allShort : CtX5_allShort spX5_allShort := by
  refine ct_of (by decide) dmC (fun _ => Nat.le_of_ble_eq_true rfl) ?_
  intro κ a M K C oM h
  obtain ⟨l, hr, hk⟩ := h
  have hlen := hr.2.1
  have loop : ∀ (n i : Nat), i + n = l.length → (∀ k : Nat, k < i → cN l k ≤ 2) → V κ 2 M 2 [some (.inr (2, 0)), some (.inl (i : Int))] [] K := by
    intro n
    induction n with
    | zero =>
      intro i hn hs
      refine sgX5_allShort_2 C i ⟨fun c => ?_, fun c => absurd (by rw [hr.1]; omega) c⟩
      have : shortB l = true := (short_iff l).mpr (fun k hk => hs k (by omega))
      rw [this] at hk
      exact hk
    | succ n ih =>
      intro i hn hs
      have hat := hr.at (k := i) (by omega)
      refine sgX5_allShort_2 C i ⟨fun c => absurd c (by rw [hr.1]; omega), fun c => ⟨by omega, fun c2 => ⟨by omega, ?_⟩, fun c2 => ?_⟩⟩
      · have := ih (i + 1) (by omega) (fun k hk => ?_)
        · exact this
        · by_cases e : k = i
          · subst e
            unfold cN
            rw [← hat.1.2]
            exact c2
          · exact hs k (by omega)
      · have : shortB l = false := by
          cases z : shortB l
          · rfl
          · have := (short_iff l).mp z i (by omega)
            unfold cN at this
            rw [← hat.1.2] at this
            exact absurd this c2
        rw [this] at hk
        exact hk
  exact sgX5_allShort_0 C (loop l.length 0 (by omega) (fun k hk => by omega))
/-- the answer of an item: it is not so, or a film behind it -/
def resK (M : Mem) (f : Int) (K : Kont) : Option Film → Prop
  | none => K (some 0) M
  | some F' => ∀ M', AgM M M' f → cFilm M' f = F' → K (some 1) M'
theorem AgM.rd {M M' : Mem} {f : Int} (h : AgM M M' f) {l : List (Int × Int)} (hr : RdK M l) : RdK M' l := by
  have e2 := h.reg (r := 2) (by decide)
  have e3 := h.reg (r := 3) (by decide)
  have e4 := h.reg (r := 4) (by decide)
  unfold RdK
  rw [e2, e3, e4]
  exact hr
/-! ===== GapTellings$TextReader.tellFilm ===== -/
abbrev rmX5_tellFilm : Room := { frames := 0, cells := 0, slots := 0, locals := 0 }
abbrev argX5_tellFilm (a : Int) : List PV := [.inr (2, 0), .inr (5, a)]
abbrev CtX5_tellFilm (sp : Int → Mem → Kont → Prop) : Prop := Ct yX5_tellFilm cX5_tellFilm 2 (some .boolean) rmX5_tellFilm domC argX5_tellFilm (fun a => sp a)
theorem dX5_tellFilm_0 : decode cX5_tellFilm 0 = .ok (.aload_n 1, 1) := by decide +kernel
theorem dX5_tellFilm_1 : decode cX5_tellFilm 1 = .ok (.getfield 46, 3) := by decide +kernel
theorem dX5_tellFilm_4 : decode cX5_tellFilm 4 = .ok (.ifCond .ne 32, 3) := by decide +kernel
theorem dX5_tellFilm_7 : decode cX5_tellFilm 7 = .ok (.aload_n 0, 1) := by decide +kernel
theorem dX5_tellFilm_8 : decode cX5_tellFilm 8 = .ok (.getfield 39, 3) := by decide +kernel
theorem dX5_tellFilm_11 : decode cX5_tellFilm 11 = .ok (.iconst 1, 1) := by decide +kernel
theorem dX5_tellFilm_12 : decode cX5_tellFilm 12 = .ok (.if_icmp .ne 24, 3) := by decide +kernel
theorem dX5_tellFilm_15 : decode cX5_tellFilm 15 = .ok (.aload_n 0, 1) := by decide +kernel
theorem dX5_tellFilm_16 : decode cX5_tellFilm 16 = .ok (.getfield 9, 3) := by decide +kernel
theorem dX5_tellFilm_19 : decode cX5_tellFilm 19 = .ok (.iconst 0, 1) := by decide +kernel
theorem dX5_tellFilm_20 : decode cX5_tellFilm 20 = .ok (.iaload, 1) := by decide +kernel
theorem dX5_tellFilm_21 : decode cX5_tellFilm 21 = .ok (.iconst 1, 1) := by decide +kernel
theorem dX5_tellFilm_22 : decode cX5_tellFilm 22 = .ok (.if_icmp .lt 14, 3) := by decide +kernel
theorem dX5_tellFilm_25 : decode cX5_tellFilm 25 = .ok (.aload_n 0, 1) := by decide +kernel
theorem dX5_tellFilm_26 : decode cX5_tellFilm 26 = .ok (.getfield 9, 3) := by decide +kernel
theorem dX5_tellFilm_29 : decode cX5_tellFilm 29 = .ok (.iconst 0, 1) := by decide +kernel
theorem dX5_tellFilm_30 : decode cX5_tellFilm 30 = .ok (.iaload, 1) := by decide +kernel
theorem dX5_tellFilm_31 : decode cX5_tellFilm 31 = .ok (.bipush 100, 2) := by decide +kernel
theorem dX5_tellFilm_33 : decode cX5_tellFilm 33 = .ok (.if_icmp .le 5, 3) := by decide +kernel
theorem dX5_tellFilm_36 : decode cX5_tellFilm 36 = .ok (.iconst 0, 1) := by decide +kernel
theorem dX5_tellFilm_37 : decode cX5_tellFilm 37 = .ok (.ireturn, 1) := by decide +kernel
theorem dX5_tellFilm_38 : decode cX5_tellFilm 38 = .ok (.aload_n 1, 1) := by decide +kernel
theorem dX5_tellFilm_39 : decode cX5_tellFilm 39 = .ok (.aload_n 0, 1) := by decide +kernel
theorem dX5_tellFilm_40 : decode cX5_tellFilm 40 = .ok (.getfield 9, 3) := by decide +kernel
theorem dX5_tellFilm_43 : decode cX5_tellFilm 43 = .ok (.iconst 0, 1) := by decide +kernel
theorem dX5_tellFilm_44 : decode cX5_tellFilm 44 = .ok (.iaload, 1) := by decide +kernel
theorem dX5_tellFilm_45 : decode cX5_tellFilm 45 = .ok (.putfield 46, 3) := by decide +kernel
theorem dX5_tellFilm_48 : decode cX5_tellFilm 48 = .ok (.iconst 1, 1) := by decide +kernel
theorem dX5_tellFilm_49 : decode cX5_tellFilm 49 = .ok (.ireturn, 1) := by decide +kernel
theorem flX5_46 : FL RX5 46 1 0 := ⟨_, _, _, rfl, by decide, uwX1, Or.inr ⟨"GapTellings", (nw_mem (t_in1 (List.mem_of_getElem? (i := 109) (by decide +kernel))) (by decide +kernel))⟩⟩
theorem plX5_46 : PL RX5 46 1 0 .int := ⟨_, _, _, rfl, by decide, uwX1, Or.inr ⟨"GapTellings", (nw_mem (t_in1 (List.mem_of_getElem? (i := 109) (by decide +kernel))) (by decide +kernel))⟩, rfl, by decide +kernel, tyX1, tyX1_ok, nmX1⟩
set_option maxHeartbeats 4000000 in
set_option maxRecDepth 20000 in
theorem sgX5_tellFilm_0 {κ : Kx} {K : Kont} {M : Mem} (C : Cx κ RX5 cX5_tellFilm 2 (some .boolean) rmX5_tellFilm domC) (i1 : Int)
    (h :
    (((M 5 i1 0) ≠ 0 →
      K (some 0) M) ∧
     (¬ ((M 5 i1 0) ≠ 0) →
      (((M 2 0 2) ≠ 1 →
        K (some 0) M) ∧
       (¬ ((M 2 0 2) ≠ 1) →
        (((M 3 0 0) < 1 →
          K (some 0) M) ∧
         (¬ ((M 3 0 0) < 1) →
          (((M 3 0 0) ≤ 100 →
            ∀ M45 : Mem, M45 = up3 M 5 i1 0 (M 3 0 0) →
            K (some 1) M45) ∧
           (¬ ((M 3 0 0) ≤ 100) →
            K (some 0) M))))))))) : V κ 2 M 0 [some (.inr (2, 0)), some (.inr (5, i1))] [] K := by
  refine v_aload_n C dX5_tellFilm_0 rfl ?_
  refine v_get C dX5_tellFilm_1 flX5_46 rfl (by decide) (by decide) (w := .inl (M 5 i1 0)) rfl ?_
  refine v_if C dX5_tellFilm_4 (tgt := 36) (by decide) (P := (M 5 i1 0) ≠ 0) rfl (fun c4 => ?_) (fun c4 => ?_)
  · replace h := h.1 c4
    refine v_iconst C dX5_tellFilm_36 (by decide) ?_
    exact v_zret C dX5_tellFilm_37 (by decide) h
  · replace h := h.2 c4
    refine v_aload_n C dX5_tellFilm_7 rfl ?_
    refine v_get C dX5_tellFilm_8 flX5_39 rfl (by decide) (by decide) (w := .inl (M 2 0 2)) rfl ?_
    refine v_iconst C dX5_tellFilm_11 (by decide) ?_
    refine v_icmp C dX5_tellFilm_12 (tgt := 36) (by decide) (P := (M 2 0 2) ≠ 1) rfl (fun c12 => ?_) (fun c12 => ?_)
    · replace h := h.1 c12
      refine v_iconst C dX5_tellFilm_36 (by decide) ?_
      exact v_zret C dX5_tellFilm_37 (by decide) h
    · replace h := h.2 c12
      refine v_aload_n C dX5_tellFilm_15 rfl ?_
      refine v_get C dX5_tellFilm_16 flX5_9 rfl (by decide) (by decide) (w := .inr (3, 0)) rfl ?_
      refine v_iconst C dX5_tellFilm_19 (by decide) ?_
      refine v_iald C dX5_tellFilm_20 rfl (by decide) (by decide) ?_
      refine v_iconst C dX5_tellFilm_21 (by decide) ?_
      refine v_icmp C dX5_tellFilm_22 (tgt := 36) (by decide) (P := (M 3 0 0) < 1) rfl (fun c22 => ?_) (fun c22 => ?_)
      · replace h := h.1 c22
        refine v_iconst C dX5_tellFilm_36 (by decide) ?_
        exact v_zret C dX5_tellFilm_37 (by decide) h
      · replace h := h.2 c22
        refine v_aload_n C dX5_tellFilm_25 rfl ?_
        refine v_get C dX5_tellFilm_26 flX5_9 rfl (by decide) (by decide) (w := .inr (3, 0)) rfl ?_
        refine v_iconst C dX5_tellFilm_29 (by decide) ?_
        refine v_iald C dX5_tellFilm_30 rfl (by decide) (by decide) ?_
        refine v_bipush C dX5_tellFilm_31 (by decide) (by decide) ?_
        refine v_icmp C dX5_tellFilm_33 (tgt := 38) (by decide) (P := (M 3 0 0) ≤ 100) rfl (fun c33 => ?_) (fun c33 => ?_)
        · replace h := h.1 c33
          refine v_aload_n C dX5_tellFilm_38 rfl ?_
          refine v_aload_n C dX5_tellFilm_39 rfl ?_
          refine v_get C dX5_tellFilm_40 flX5_9 rfl (by decide) (by decide) (w := .inr (3, 0)) rfl ?_
          refine v_iconst C dX5_tellFilm_43 (by decide) ?_
          refine v_iald C dX5_tellFilm_44 rfl (by decide) (by decide) ?_
          refine v_put C dX5_tellFilm_45 plX5_46 rfl (by decide) (by decide) rfl rfl rfl ?_
          refine v_nmM (fun M45 eM45 => ?_)
          replace h := h M45 eM45
          refine v_iconst C dX5_tellFilm_48 (by decide) ?_
          exact v_zret C dX5_tellFilm_49 (by decide) h
        · replace h := h.2 c33
          refine v_iconst C dX5_tellFilm_36 (by decide) ?_
          exact v_zret C dX5_tellFilm_37 (by decide) h
def itF (F : Film) (l : List (Int × Int)) : Option Film := if F 0 0 0 = 0 ∧ l.length = 1 ∧ 1 ≤ aN l 0 ∧ aN l 0 ≤ 100 then some (sFT F (aN l 0)) else none
abbrev spX5_tellFilm (f : Int) (M : Mem) (K : Kont) : Prop := ∃ l, RdK M l ∧ resK M f K (itF (cFilm M f) l)
theorem ctX5_tellFilm : CtX5_tellFilm spX5_tellFilm := by
  refine ct_of (by decide) dmC (fun _ => Nat.le_of_ble_eq_true rfl) ?_
  intro κ f M K C oM h
  obtain ⟨l, hr, hk⟩ := h
  have h0 := hr.at (k := 0) (by have := hr.2.1; omega)
  have h2 := hr.1
  have e0 : M 3 0 0 = aN l 0 := h0.1.1
  have eT : cFilm M f 0 0 0 = M 5 f 0 := rfl
  unfold itF at hk
  rw [eT] at hk
  have no : ¬ (M 5 f 0 = 0 ∧ l.length = 1 ∧ 1 ≤ aN l 0 ∧ aN l 0 ≤ 100) → K (some 0) M := fun z => by rw [if_neg z] at hk; exact hk
  refine sgX5_tellFilm_0 C f ⟨fun c => no (by omega), fun c => ⟨fun c2 => no (by omega), fun c2 => ⟨fun c3 => no (by omega), fun c3 => ⟨fun c4 N eN => ?_, fun c4 => no (by omega)⟩⟩⟩⟩
  rw [if_pos (by omega)] at hk
  refine hk N (by rw [eN]; exact AgM.rf.up1 (by decide) _ _) ?_
  rw [eN, e0]
  funext t a b
  unfold cFilm sFT
  split <;> simp [up3]
  simp_all
/-! ===== GapTellings$TextReader.tellBreath ===== -/
abbrev rmX5_tellBreath : Room := { frames := 1, cells := 0, slots := 0, locals := 21 }
abbrev argX5_tellBreath (a : Int) : List PV := [.inr (2, 0), .inr (5, a)]
abbrev CtX5_tellBreath (sp : Int → Mem → Kont → Prop) : Prop := Ct yX5_tellBreath cX5_tellBreath 2 (some .boolean) rmX5_tellBreath domC argX5_tellBreath (fun a => sp a)
theorem dX5_tellBreath_0 : decode cX5_tellBreath 0 = .ok (.aload_n 0, 1) := by decide +kernel
theorem dX5_tellBreath_1 : decode cX5_tellBreath 1 = .ok (.getfield 39, 3) := by decide +kernel
theorem dX5_tellBreath_4 : decode cX5_tellBreath 4 = .ok (.iconst 1, 1) := by decide +kernel
theorem dX5_tellBreath_5 : decode cX5_tellBreath 5 = .ok (.if_icmp .ne 21, 3) := by decide +kernel
theorem dX5_tellBreath_8 : decode cX5_tellBreath 8 = .ok (.aload_n 0, 1) := by decide +kernel
theorem dX5_tellBreath_9 : decode cX5_tellBreath 9 = .ok (.invokevirtual 96, 3) := by decide +kernel
theorem dX5_tellBreath_12 : decode cX5_tellBreath 12 = .ok (.ifCond .eq 14, 3) := by decide +kernel
theorem dX5_tellBreath_15 : decode cX5_tellBreath 15 = .ok (.aload_n 0, 1) := by decide +kernel
theorem dX5_tellBreath_16 : decode cX5_tellBreath 16 = .ok (.getfield 9, 3) := by decide +kernel
theorem dX5_tellBreath_19 : decode cX5_tellBreath 19 = .ok (.iconst 0, 1) := by decide +kernel
theorem dX5_tellBreath_20 : decode cX5_tellBreath 20 = .ok (.iaload, 1) := by decide +kernel
theorem dX5_tellBreath_21 : decode cX5_tellBreath 21 = .ok (.bipush 9, 2) := by decide +kernel
theorem dX5_tellBreath_23 : decode cX5_tellBreath 23 = .ok (.if_icmp .le 5, 3) := by decide +kernel
theorem dX5_tellBreath_26 : decode cX5_tellBreath 26 = .ok (.iconst 0, 1) := by decide +kernel
theorem dX5_tellBreath_27 : decode cX5_tellBreath 27 = .ok (.ireturn, 1) := by decide +kernel
theorem dX5_tellBreath_28 : decode cX5_tellBreath 28 = .ok (.aload_n 1, 1) := by decide +kernel
theorem dX5_tellBreath_29 : decode cX5_tellBreath 29 = .ok (.aload_n 0, 1) := by decide +kernel
theorem dX5_tellBreath_30 : decode cX5_tellBreath 30 = .ok (.getfield 9, 3) := by decide +kernel
theorem dX5_tellBreath_33 : decode cX5_tellBreath 33 = .ok (.iconst 0, 1) := by decide +kernel
theorem dX5_tellBreath_34 : decode cX5_tellBreath 34 = .ok (.iaload, 1) := by decide +kernel
theorem dX5_tellBreath_35 : decode cX5_tellBreath 35 = .ok (.putfield 103, 3) := by decide +kernel
theorem dX5_tellBreath_38 : decode cX5_tellBreath 38 = .ok (.iconst 1, 1) := by decide +kernel
theorem dX5_tellBreath_39 : decode cX5_tellBreath 39 = .ok (.ireturn, 1) := by decide +kernel
theorem ivX5_96 : IV RX5 96 yX5_allShort cX5_allShort 2 (some .boolean) 0 := ⟨(tb_mem (t_in2 (List.mem_of_getElem? (i := 174) (by decide +kernel))) (by decide +kernel)), (tb_mem (t_in2 (List.mem_of_getElem? (i := 175) (by decide +kernel))) (by decide +kernel)), (tb_mem (t_in2 (List.mem_of_getElem? (i := 176) (by decide +kernel))) (by decide +kernel)), (tb_mem (t_in1 (List.mem_of_getElem? (i := 2) (by decide +kernel))) (by decide +kernel)), (tb_mem (t_in2 (List.mem_of_getElem? (i := 177) (by decide +kernel))) (by decide +kernel)), ⟨by decide +kernel, by decide +kernel, by decide +kernel⟩⟩
theorem plX5_103 : PL RX5 103 1 1 .int := ⟨_, _, _, rfl, by decide, uwX1, Or.inr ⟨"GapTellings", (nw_mem (t_in1 (List.mem_of_getElem? (i := 115) (by decide +kernel))) (by decide +kernel))⟩, rfl, by decide +kernel, tyX1, tyX1_ok, nmX1⟩
set_option maxHeartbeats 4000000 in
set_option maxRecDepth 20000 in
theorem sgX5_tellBreath_0 {κ : Kx} {K : Kont} {M : Mem} (C : Cx κ RX5 cX5_tellBreath 2 (some .boolean) rmX5_tellBreath domC) (i1 : Int)
    (h :
    (((M 2 0 2) ≠ 1 →
      K (some 0) M) ∧
     (¬ ((M 2 0 2) ≠ 1) →
      spX5_allShort M (rI (fun r9 M9 =>
      ((r9 = 0 →
        K (some 0) M9) ∧
       (¬ (r9 = 0) →
        (((M9 3 0 0) ≤ 9 →
          ∀ M35 : Mem, M35 = up3 M9 5 i1 1 (M9 3 0 0) →
          K (some 1) M35) ∧
         (¬ ((M9 3 0 0) ≤ 9) →
          K (some 0) M9))))))))) : V κ 2 M 0 [some (.inr (2, 0)), some (.inr (5, i1))] [] K := by
  refine v_aload_n C dX5_tellBreath_0 rfl ?_
  refine v_get C dX5_tellBreath_1 flX5_39 rfl (by decide) (by decide) (w := .inl (M 2 0 2)) rfl ?_
  refine v_iconst C dX5_tellBreath_4 (by decide) ?_
  refine v_icmp C dX5_tellBreath_5 (tgt := 26) (by decide) (P := (M 2 0 2) ≠ 1) rfl (fun c5 => ?_) (fun c5 => ?_)
  · replace h := h.1 c5
    refine v_iconst C dX5_tellBreath_26 (by decide) ?_
    exact v_zret C dX5_tellBreath_27 (by decide) h
  · replace h := h.2 c5
    refine v_aload_n C dX5_tellBreath_8 rfl ?_
    refine v_invV C ctX5_allShort dX5_tellBreath_9 ivX5_96 ⟨by decide, by decide, rfl, rfl⟩ (() : Unit) (As := []) rfl rfl rfl (by decide) rfl (st := []) rfl (Nat.le_of_ble_eq_true rfl) h (fun o M9 oM9 io9 h => ?_)
    obtain ⟨r9, rfl, h⟩ := rI_out h
    refine v_push ?_
    refine v_if C dX5_tellBreath_12 (tgt := 26) (by decide) (P := r9 = 0) rfl (fun c12 => ?_) (fun c12 => ?_)
    · replace h := h.1 c12
      refine v_iconst C dX5_tellBreath_26 (by decide) ?_
      exact v_zret C dX5_tellBreath_27 (by decide) h
    · replace h := h.2 c12
      refine v_aload_n C dX5_tellBreath_15 rfl ?_
      refine v_get C dX5_tellBreath_16 flX5_9 rfl (by decide) (by decide) (w := .inr (3, 0)) rfl ?_
      refine v_iconst C dX5_tellBreath_19 (by decide) ?_
      refine v_iald C dX5_tellBreath_20 rfl (by decide) (by decide) ?_
      refine v_bipush C dX5_tellBreath_21 (by decide) (by decide) ?_
      refine v_icmp C dX5_tellBreath_23 (tgt := 28) (by decide) (P := (M9 3 0 0) ≤ 9) rfl (fun c23 => ?_) (fun c23 => ?_)
      · replace h := h.1 c23
        refine v_aload_n C dX5_tellBreath_28 rfl ?_
        refine v_aload_n C dX5_tellBreath_29 rfl ?_
        refine v_get C dX5_tellBreath_30 flX5_9 rfl (by decide) (by decide) (w := .inr (3, 0)) rfl ?_
        refine v_iconst C dX5_tellBreath_33 (by decide) ?_
        refine v_iald C dX5_tellBreath_34 rfl (by decide) (by decide) ?_
        refine v_put C dX5_tellBreath_35 plX5_103 rfl (by decide) (by decide) rfl rfl rfl ?_
        refine v_nmM (fun M35 eM35 => ?_)
        replace h := h M35 eM35
        refine v_iconst C dX5_tellBreath_38 (by decide) ?_
        exact v_zret C dX5_tellBreath_39 (by decide) h
      · replace h := h.2 c23
        refine v_iconst C dX5_tellBreath_26 (by decide) ?_
        exact v_zret C dX5_tellBreath_27 (by decide) h
def itB (F : Film) (l : List (Int × Int)) : Option Film := if l.length = 1 ∧ shortB l = true ∧ aN l 0 ≤ 9 then some (sFB F (aN l 0)) else none
abbrev spX5_tellBreath (f : Int) (M : Mem) (K : Kont) : Prop := ∃ l, RdK M l ∧ resK M f K (itB (cFilm M f) l)
theorem ctX5_tellBreath : CtX5_tellBreath spX5_tellBreath := by
  refine ct_of (by decide) dmC (fun _ => Nat.le_of_ble_eq_true rfl) ?_
  intro κ f M K C oM h
  obtain ⟨l, hr, hk⟩ := h
  have h0 := hr.at (k := 0) (by have := hr.2.1; omega)
  have h2 := hr.1
  have e0 : M 3 0 0 = aN l 0 := h0.1.1
  unfold itB at hk
  have no : ¬ (l.length = 1 ∧ shortB l = true ∧ aN l 0 ≤ 9) → K (some 0) M := fun z => by rw [if_neg z] at hk; exact hk
  refine sgX5_tellBreath_0 C f ⟨fun c => no (by omega), fun c => ⟨l, hr, ?_, ?_⟩⟩
  · intro c2
    refine no (fun z => ?_)
    rw [z.2.1] at c2
    exact absurd c2 (by decide)
  · intro c2
    have hs : shortB l = true := by
      cases z : shortB l
      · rw [z] at c2
        exact absurd rfl c2
      · rfl
    refine ⟨fun c3 N eN => ?_, fun c3 => no (by omega)⟩
    rw [if_pos ⟨by omega, hs, by omega⟩] at hk
    refine hk N (by rw [eN]; exact AgM.rf.up1 (by decide) _ _) ?_
    rw [eN, e0]
    funext t a b
    unfold cFilm sFB
    split <;> simp [up3]
    simp_all
/-! ===== GapTellings$TextReader.tellSound ===== -/
abbrev rmX5_tellSound : Room := { frames := 1, cells := 0, slots := 0, locals := 23 }
abbrev argX5_tellSound (a : Int × Int) : List PV := [.inr (2, 0), .inr (5, a.1), .inl a.2]
abbrev CtX5_tellSound (sp : Int → Int → Mem → Kont → Prop) : Prop := Ct yX5_tellSound cX5_tellSound 3 (some .boolean) rmX5_tellSound domC argX5_tellSound (fun a => sp a.1 a.2)
theorem dX5_tellSound_0 : decode cX5_tellSound 0 = .ok (.aload_n 0, 1) := by decide +kernel
theorem dX5_tellSound_1 : decode cX5_tellSound 1 = .ok (.getfield 39, 3) := by decide +kernel
theorem dX5_tellSound_4 : decode cX5_tellSound 4 = .ok (.iconst 2, 1) := by decide +kernel
theorem dX5_tellSound_5 : decode cX5_tellSound 5 = .ok (.if_icmp .ne 50, 3) := by decide +kernel
theorem dX5_tellSound_8 : decode cX5_tellSound 8 = .ok (.aload_n 0, 1) := by decide +kernel
theorem dX5_tellSound_9 : decode cX5_tellSound 9 = .ok (.getfield 15, 3) := by decide +kernel
theorem dX5_tellSound_12 : decode cX5_tellSound 12 = .ok (.iconst 0, 1) := by decide +kernel
theorem dX5_tellSound_13 : decode cX5_tellSound 13 = .ok (.iaload, 1) := by decide +kernel
theorem dX5_tellSound_14 : decode cX5_tellSound 14 = .ok (.iconst 2, 1) := by decide +kernel
theorem dX5_tellSound_15 : decode cX5_tellSound 15 = .ok (.if_icmp .gt 40, 3) := by decide +kernel
theorem dX5_tellSound_18 : decode cX5_tellSound 18 = .ok (.aload_n 0, 1) := by decide +kernel
theorem dX5_tellSound_19 : decode cX5_tellSound 19 = .ok (.getfield 9, 3) := by decide +kernel
theorem dX5_tellSound_22 : decode cX5_tellSound 22 = .ok (.iconst 0, 1) := by decide +kernel
theorem dX5_tellSound_23 : decode cX5_tellSound 23 = .ok (.iaload, 1) := by decide +kernel
theorem dX5_tellSound_24 : decode cX5_tellSound 24 = .ok (.aload_n 0, 1) := by decide +kernel
theorem dX5_tellSound_25 : decode cX5_tellSound 25 = .ok (.getfield 9, 3) := by decide +kernel
theorem dX5_tellSound_28 : decode cX5_tellSound 28 = .ok (.iconst 1, 1) := by decide +kernel
theorem dX5_tellSound_29 : decode cX5_tellSound 29 = .ok (.iaload, 1) := by decide +kernel
theorem dX5_tellSound_30 : decode cX5_tellSound 30 = .ok (.if_icmp .ge 25, 3) := by decide +kernel
theorem dX5_tellSound_33 : decode cX5_tellSound 33 = .ok (.aload_n 0, 1) := by decide +kernel
theorem dX5_tellSound_34 : decode cX5_tellSound 34 = .ok (.getfield 9, 3) := by decide +kernel
theorem dX5_tellSound_37 : decode cX5_tellSound 37 = .ok (.iconst 1, 1) := by decide +kernel
theorem dX5_tellSound_38 : decode cX5_tellSound 38 = .ok (.iaload, 1) := by decide +kernel
theorem dX5_tellSound_39 : decode cX5_tellSound 39 = .ok (.aload_n 1, 1) := by decide +kernel
theorem dX5_tellSound_40 : decode cX5_tellSound 40 = .ok (.getfield 46, 3) := by decide +kernel
theorem dX5_tellSound_43 : decode cX5_tellSound 43 = .ok (.if_icmp .gt 12, 3) := by decide +kernel
theorem dX5_tellSound_46 : decode cX5_tellSound 46 = .ok (.aload_n 1, 1) := by decide +kernel
theorem dX5_tellSound_47 : decode cX5_tellSound 47 = .ok (.getfield 70, 3) := by decide +kernel
theorem dX5_tellSound_50 : decode cX5_tellSound 50 = .ok (.bipush 12, 2) := by decide +kernel
theorem dX5_tellSound_52 : decode cX5_tellSound 52 = .ok (.if_icmp .lt 5, 3) := by decide +kernel
theorem dX5_tellSound_55 : decode cX5_tellSound 55 = .ok (.iconst 0, 1) := by decide +kernel
theorem dX5_tellSound_56 : decode cX5_tellSound 56 = .ok (.ireturn, 1) := by decide +kernel
theorem dX5_tellSound_57 : decode cX5_tellSound 57 = .ok (.aload_n 1, 1) := by decide +kernel
theorem dX5_tellSound_58 : decode cX5_tellSound 58 = .ok (.iload_n 2, 1) := by decide +kernel
theorem dX5_tellSound_59 : decode cX5_tellSound 59 = .ok (.aload_n 0, 1) := by decide +kernel
theorem dX5_tellSound_60 : decode cX5_tellSound 60 = .ok (.getfield 9, 3) := by decide +kernel
theorem dX5_tellSound_63 : decode cX5_tellSound 63 = .ok (.iconst 0, 1) := by decide +kernel
theorem dX5_tellSound_64 : decode cX5_tellSound 64 = .ok (.iaload, 1) := by decide +kernel
theorem dX5_tellSound_65 : decode cX5_tellSound 65 = .ok (.aload_n 0, 1) := by decide +kernel
theorem dX5_tellSound_66 : decode cX5_tellSound 66 = .ok (.getfield 9, 3) := by decide +kernel
theorem dX5_tellSound_69 : decode cX5_tellSound 69 = .ok (.iconst 1, 1) := by decide +kernel
theorem dX5_tellSound_70 : decode cX5_tellSound 70 = .ok (.iaload, 1) := by decide +kernel
theorem dX5_tellSound_71 : decode cX5_tellSound 71 = .ok (.invokevirtual 73, 3) := by decide +kernel
theorem dX5_tellSound_74 : decode cX5_tellSound 74 = .ok (.iconst 1, 1) := by decide +kernel
theorem dX5_tellSound_75 : decode cX5_tellSound 75 = .ok (.ireturn, 1) := by decide +kernel
theorem flX5_70 : FL RX5 70 1 3 := ⟨_, _, _, rfl, by decide, uwX1, Or.inr ⟨"GapTellings", (nw_mem (t_in1 (List.mem_of_getElem? (i := 121) (by decide +kernel))) (by decide +kernel))⟩⟩
theorem ivX5_73 : IV RX5 73 yX1_addSound cX1_addSound 4 none 3 := ⟨(tb_mem (t_in2 (List.mem_of_getElem? (i := 162) (by decide +kernel))) (by decide +kernel)), (tb_mem (t_in2 (List.mem_of_getElem? (i := 163) (by decide +kernel))) (by decide +kernel)), (tb_mem (t_in2 (List.mem_of_getElem? (i := 164) (by decide +kernel))) (by decide +kernel)), (tb_mem (t_in1 (List.mem_of_getElem? (i := 3) (by decide +kernel))) (by decide +kernel)), (tb_mem (t_in2 (List.mem_of_getElem? (i := 165) (by decide +kernel))) (by decide +kernel)), ⟨by decide +kernel, by decide +kernel, by decide +kernel⟩⟩
set_option maxHeartbeats 4000000 in
set_option maxRecDepth 20000 in
theorem sgX5_tellSound_0 {κ : Kx} {K : Kont} {M : Mem} (C : Cx κ RX5 cX5_tellSound 3 (some .boolean) rmX5_tellSound domC) (i1 : Int) (x2 : Int)
    (h :
    (((M 2 0 2) ≠ 2 →
      K (some 0) M) ∧
     (¬ ((M 2 0 2) ≠ 2) →
      ((2 < (M 4 0 0) →
        K (some 0) M) ∧
       (¬ (2 < (M 4 0 0)) →
        (((M 3 0 1) ≤ (M 3 0 0) →
          K (some 0) M) ∧
         (¬ ((M 3 0 1) ≤ (M 3 0 0)) →
          (((M 5 i1 0) < (M 3 0 1) →
            K (some 0) M) ∧
           (¬ ((M 5 i1 0) < (M 3 0 1)) →
            (((M 5 i1 3) < 12 →
              spX1_addSound i1 x2 (M 3 0 0) (M 3 0 1) M (rV (fun M71 =>
              K (some 1) M71))) ∧
             (¬ ((M 5 i1 3) < 12) →
              K (some 0) M))))))))))) : V κ 3 M 0 [some (.inr (2, 0)), some (.inr (5, i1)), some (.inl x2)] [] K := by
  refine v_aload_n C dX5_tellSound_0 rfl ?_
  refine v_get C dX5_tellSound_1 flX5_39 rfl (by decide) (by decide) (w := .inl (M 2 0 2)) rfl ?_
  refine v_iconst C dX5_tellSound_4 (by decide) ?_
  refine v_icmp C dX5_tellSound_5 (tgt := 55) (by decide) (P := (M 2 0 2) ≠ 2) rfl (fun c5 => ?_) (fun c5 => ?_)
  · replace h := h.1 c5
    refine v_iconst C dX5_tellSound_55 (by decide) ?_
    exact v_zret C dX5_tellSound_56 (by decide) h
  · replace h := h.2 c5
    refine v_aload_n C dX5_tellSound_8 rfl ?_
    refine v_get C dX5_tellSound_9 flX5_15 rfl (by decide) (by decide) (w := .inr (4, 0)) rfl ?_
    refine v_iconst C dX5_tellSound_12 (by decide) ?_
    refine v_iald C dX5_tellSound_13 rfl (by decide) (by decide) ?_
    refine v_iconst C dX5_tellSound_14 (by decide) ?_
    refine v_icmp C dX5_tellSound_15 (tgt := 55) (by decide) (P := 2 < (M 4 0 0)) rfl (fun c15 => ?_) (fun c15 => ?_)
    · replace h := h.1 c15
      refine v_iconst C dX5_tellSound_55 (by decide) ?_
      exact v_zret C dX5_tellSound_56 (by decide) h
    · replace h := h.2 c15
      refine v_aload_n C dX5_tellSound_18 rfl ?_
      refine v_get C dX5_tellSound_19 flX5_9 rfl (by decide) (by decide) (w := .inr (3, 0)) rfl ?_
      refine v_iconst C dX5_tellSound_22 (by decide) ?_
      refine v_iald C dX5_tellSound_23 rfl (by decide) (by decide) ?_
      refine v_aload_n C dX5_tellSound_24 rfl ?_
      refine v_get C dX5_tellSound_25 flX5_9 rfl (by decide) (by decide) (w := .inr (3, 0)) rfl ?_
      refine v_iconst C dX5_tellSound_28 (by decide) ?_
      refine v_iald C dX5_tellSound_29 rfl (by decide) (by decide) ?_
      refine v_icmp C dX5_tellSound_30 (tgt := 55) (by decide) (P := (M 3 0 1) ≤ (M 3 0 0)) rfl (fun c30 => ?_) (fun c30 => ?_)
      · replace h := h.1 c30
        refine v_iconst C dX5_tellSound_55 (by decide) ?_
        exact v_zret C dX5_tellSound_56 (by decide) h
      · replace h := h.2 c30
        refine v_aload_n C dX5_tellSound_33 rfl ?_
        refine v_get C dX5_tellSound_34 flX5_9 rfl (by decide) (by decide) (w := .inr (3, 0)) rfl ?_
        refine v_iconst C dX5_tellSound_37 (by decide) ?_
        refine v_iald C dX5_tellSound_38 rfl (by decide) (by decide) ?_
        refine v_aload_n C dX5_tellSound_39 rfl ?_
        refine v_get C dX5_tellSound_40 flX5_46 rfl (by decide) (by decide) (w := .inl (M 5 i1 0)) rfl ?_
        refine v_icmp C dX5_tellSound_43 (tgt := 55) (by decide) (P := (M 5 i1 0) < (M 3 0 1)) rfl (fun c43 => ?_) (fun c43 => ?_)
        · replace h := h.1 c43
          refine v_iconst C dX5_tellSound_55 (by decide) ?_
          exact v_zret C dX5_tellSound_56 (by decide) h
        · replace h := h.2 c43
          refine v_aload_n C dX5_tellSound_46 rfl ?_
          refine v_get C dX5_tellSound_47 flX5_70 rfl (by decide) (by decide) (w := .inl (M 5 i1 3)) rfl ?_
          refine v_bipush C dX5_tellSound_50 (by decide) (by decide) ?_
          refine v_icmp C dX5_tellSound_52 (tgt := 57) (by decide) (P := (M 5 i1 3) < 12) rfl (fun c52 => ?_) (fun c52 => ?_)
          · replace h := h.1 c52
            refine v_aload_n C dX5_tellSound_57 rfl ?_
            refine v_iload_n C dX5_tellSound_58 rfl ?_
            refine v_aload_n C dX5_tellSound_59 rfl ?_
            refine v_get C dX5_tellSound_60 flX5_9 rfl (by decide) (by decide) (w := .inr (3, 0)) rfl ?_
            refine v_iconst C dX5_tellSound_63 (by decide) ?_
            refine v_iald C dX5_tellSound_64 rfl (by decide) (by decide) ?_
            refine v_aload_n C dX5_tellSound_65 rfl ?_
            refine v_get C dX5_tellSound_66 flX5_9 rfl (by decide) (by decide) (w := .inr (3, 0)) rfl ?_
            refine v_iconst C dX5_tellSound_69 (by decide) ?_
            refine v_iald C dX5_tellSound_70 rfl (by decide) (by decide) ?_
            refine v_invV C ctX1_addSound dX5_tellSound_71 ivX5_73 ⟨by decide, by decide, rfl, rfl⟩ ((i1, x2, M 3 0 0, M 3 0 1) : Int × Int × Int × Int) (As := [.inl x2, .inl (M 3 0 0), .inl (M 3 0 1)]) rfl rfl rfl (by decide) rfl (st := []) rfl (Nat.le_of_ble_eq_true rfl) h (fun o M71 oM71 io71 h => ?_)
            obtain ⟨rfl, h⟩ := rV_out h
            refine v_push0 ?_
            refine v_iconst C dX5_tellSound_74 (by decide) ?_
            exact v_zret C dX5_tellSound_75 (by decide) h
          · replace h := h.2 c52
            refine v_iconst C dX5_tellSound_55 (by decide) ?_
            exact v_zret C dX5_tellSound_56 (by decide) h
def itO (F : Film) (k : Int) (l : List (Int × Int)) : Option Film := if l.length = 2 ∧ cN l 0 ≤ 2 ∧ aN l 0 < aN l 1 ∧ aN l 1 ≤ F 0 0 0 ∧ F 2 0 0 < 12 then some (sFS F k (aN l 0) (aN l 1)) else none
abbrev spX5_tellSound (f k : Int) (M : Mem) (K : Kont) : Prop := (0 ≤ M 5 f 3) ∧ ∃ l, RdK M l ∧ resK M f K (itO (cFilm M f) k l)
theorem ctX5_tellSound : CtX5_tellSound spX5_tellSound := by
  refine ct_of (by decide) dmC (fun _ => Nat.le_of_ble_eq_true rfl) ?_
  intro κ a M K C oM h
  obtain ⟨f, k⟩ := a
  obtain ⟨hn, l, hr, hk⟩ := h
  have hn : 0 ≤ M 5 f 3 := hn
  have hlen := hr.2.1
  have h0 := hr.at (k := 0) (by omega)
  have h2 := hr.1
  have e0 : M 3 0 0 = aN l 0 := h0.1.1
  have f0 : M 4 0 0 = cN l 0 := h0.1.2
  have e1 : l.length = 2 → M 3 0 1 = aN l 1 := fun z => (hr.at (k := 1) (by omega)).1.1
  have eT : cFilm M f 0 0 0 = M 5 f 0 := rfl
  have eS : cFilm M f 2 0 0 = M 5 f 3 := rfl
  unfold itO at hk
  rw [eT, eS] at hk
  have no : ¬ (l.length = 2 ∧ cN l 0 ≤ 2 ∧ aN l 0 < aN l 1 ∧ aN l 1 ≤ M 5 f 0 ∧ M 5 f 3 < 12) → K (some 0) M := fun z => by rw [if_neg z] at hk; exact hk
  refine sgX5_tellSound_0 C f k ⟨fun c => no (by omega), fun c => ?_⟩
  have e1' := e1 (by omega)
  refine ⟨fun c2 => no (by omega), fun c2 => ⟨fun c3 => no (by omega), fun c3 => ⟨fun c4 => no (by omega), fun c4 => ⟨fun c5 => ⟨by omega, ?_⟩, fun c5 => no (by omega)⟩⟩⟩⟩
  rw [if_pos (by omega)] at hk
  rw [e0, e1']
  intro N hA hN
  exact hk N hA hN
/-! ===== GapTellings$TextReader.tellNeed ===== -/
abbrev rmX5_tellNeed : Room := { frames := 1, cells := 0, slots := 0, locals := 21 }
abbrev argX5_tellNeed (a : Int) : List PV := [.inr (2, 0), .inr (5, a)]
abbrev CtX5_tellNeed (sp : Int → Mem → Kont → Prop) : Prop := Ct yX5_tellNeed cX5_tellNeed 2 (some .boolean) rmX5_tellNeed domC argX5_tellNeed (fun a => sp a)
theorem dX5_tellNeed_0 : decode cX5_tellNeed 0 = .ok (.aload_n 0, 1) := by decide +kernel
theorem dX5_tellNeed_1 : decode cX5_tellNeed 1 = .ok (.getfield 39, 3) := by decide +kernel
theorem dX5_tellNeed_4 : decode cX5_tellNeed 4 = .ok (.iconst 2, 1) := by decide +kernel
theorem dX5_tellNeed_5 : decode cX5_tellNeed 5 = .ok (.if_icmp .ne 57, 3) := by decide +kernel
theorem dX5_tellNeed_8 : decode cX5_tellNeed 8 = .ok (.aload_n 0, 1) := by decide +kernel
theorem dX5_tellNeed_9 : decode cX5_tellNeed 9 = .ok (.invokevirtual 96, 3) := by decide +kernel
theorem dX5_tellNeed_12 : decode cX5_tellNeed 12 = .ok (.ifCond .eq 50, 3) := by decide +kernel
theorem dX5_tellNeed_15 : decode cX5_tellNeed 15 = .ok (.aload_n 0, 1) := by decide +kernel
theorem dX5_tellNeed_16 : decode cX5_tellNeed 16 = .ok (.getfield 9, 3) := by decide +kernel
theorem dX5_tellNeed_19 : decode cX5_tellNeed 19 = .ok (.iconst 1, 1) := by decide +kernel
theorem dX5_tellNeed_20 : decode cX5_tellNeed 20 = .ok (.iaload, 1) := by decide +kernel
theorem dX5_tellNeed_21 : decode cX5_tellNeed 21 = .ok (.aload_n 1, 1) := by decide +kernel
theorem dX5_tellNeed_22 : decode cX5_tellNeed 22 = .ok (.getfield 77, 3) := by decide +kernel
theorem dX5_tellNeed_25 : decode cX5_tellNeed 25 = .ok (.if_icmp .ge 37, 3) := by decide +kernel
theorem dX5_tellNeed_28 : decode cX5_tellNeed 28 = .ok (.aload_n 0, 1) := by decide +kernel
theorem dX5_tellNeed_29 : decode cX5_tellNeed 29 = .ok (.getfield 9, 3) := by decide +kernel
theorem dX5_tellNeed_32 : decode cX5_tellNeed 32 = .ok (.iconst 0, 1) := by decide +kernel
theorem dX5_tellNeed_33 : decode cX5_tellNeed 33 = .ok (.iaload, 1) := by decide +kernel
theorem dX5_tellNeed_34 : decode cX5_tellNeed 34 = .ok (.aload_n 0, 1) := by decide +kernel
theorem dX5_tellNeed_35 : decode cX5_tellNeed 35 = .ok (.getfield 9, 3) := by decide +kernel
theorem dX5_tellNeed_38 : decode cX5_tellNeed 38 = .ok (.iconst 1, 1) := by decide +kernel
theorem dX5_tellNeed_39 : decode cX5_tellNeed 39 = .ok (.iaload, 1) := by decide +kernel
theorem dX5_tellNeed_40 : decode cX5_tellNeed 40 = .ok (.if_icmp .ge 22, 3) := by decide +kernel
theorem dX5_tellNeed_43 : decode cX5_tellNeed 43 = .ok (.aload_n 1, 1) := by decide +kernel
theorem dX5_tellNeed_44 : decode cX5_tellNeed 44 = .ok (.getfield 83, 3) := by decide +kernel
theorem dX5_tellNeed_47 : decode cX5_tellNeed 47 = .ok (.aload_n 0, 1) := by decide +kernel
theorem dX5_tellNeed_48 : decode cX5_tellNeed 48 = .ok (.getfield 9, 3) := by decide +kernel
theorem dX5_tellNeed_51 : decode cX5_tellNeed 51 = .ok (.iconst 1, 1) := by decide +kernel
theorem dX5_tellNeed_52 : decode cX5_tellNeed 52 = .ok (.iaload, 1) := by decide +kernel
theorem dX5_tellNeed_53 : decode cX5_tellNeed 53 = .ok (.aaload, 1) := by decide +kernel
theorem dX5_tellNeed_54 : decode cX5_tellNeed 54 = .ok (.getfield 100, 3) := by decide +kernel
theorem dX5_tellNeed_57 : decode cX5_tellNeed 57 = .ok (.bipush (-4), 2) := by decide +kernel
theorem dX5_tellNeed_59 : decode cX5_tellNeed 59 = .ok (.if_icmp .eq 5, 3) := by decide +kernel
theorem dX5_tellNeed_62 : decode cX5_tellNeed 62 = .ok (.iconst 0, 1) := by decide +kernel
theorem dX5_tellNeed_63 : decode cX5_tellNeed 63 = .ok (.ireturn, 1) := by decide +kernel
theorem dX5_tellNeed_64 : decode cX5_tellNeed 64 = .ok (.aload_n 1, 1) := by decide +kernel
theorem dX5_tellNeed_65 : decode cX5_tellNeed 65 = .ok (.getfield 83, 3) := by decide +kernel
theorem dX5_tellNeed_68 : decode cX5_tellNeed 68 = .ok (.aload_n 0, 1) := by decide +kernel
theorem dX5_tellNeed_69 : decode cX5_tellNeed 69 = .ok (.getfield 9, 3) := by decide +kernel
theorem dX5_tellNeed_72 : decode cX5_tellNeed 72 = .ok (.iconst 1, 1) := by decide +kernel
theorem dX5_tellNeed_73 : decode cX5_tellNeed 73 = .ok (.iaload, 1) := by decide +kernel
theorem dX5_tellNeed_74 : decode cX5_tellNeed 74 = .ok (.aaload, 1) := by decide +kernel
theorem dX5_tellNeed_75 : decode cX5_tellNeed 75 = .ok (.aload_n 0, 1) := by decide +kernel
theorem dX5_tellNeed_76 : decode cX5_tellNeed 76 = .ok (.getfield 9, 3) := by decide +kernel
theorem dX5_tellNeed_79 : decode cX5_tellNeed 79 = .ok (.iconst 0, 1) := by decide +kernel
theorem dX5_tellNeed_80 : decode cX5_tellNeed 80 = .ok (.iaload, 1) := by decide +kernel
theorem dX5_tellNeed_81 : decode cX5_tellNeed 81 = .ok (.putfield 100, 3) := by decide +kernel
theorem dX5_tellNeed_84 : decode cX5_tellNeed 84 = .ok (.iconst 1, 1) := by decide +kernel
theorem dX5_tellNeed_85 : decode cX5_tellNeed 85 = .ok (.ireturn, 1) := by decide +kernel
theorem flX5_77 : FL RX5 77 1 7 := ⟨_, _, _, rfl, by decide, uwX1, Or.inr ⟨"GapTellings", (nw_mem (t_in1 (List.mem_of_getElem? (i := 136) (by decide +kernel))) (by decide +kernel))⟩⟩
theorem flX5_83 : FL RX5 83 1 8 := ⟨_, _, _, rfl, by decide, uwX1, Or.inr ⟨"GapTellings", (nw_mem (t_in1 (List.mem_of_getElem? (i := 142) (by decide +kernel))) (by decide +kernel))⟩⟩
theorem flX5_100 : FL RX5 100 3 3 := ⟨_, _, _, rfl, by decide, uwX3, Or.inr ⟨"GapTellings", (nw_mem (t_in1 (List.mem_of_getElem? (i := 76) (by decide +kernel))) (by decide +kernel))⟩⟩
theorem plX5_100 : PL RX5 100 3 3 .int := ⟨_, _, _, rfl, by decide, uwX3, Or.inr ⟨"GapTellings", (nw_mem (t_in1 (List.mem_of_getElem? (i := 76) (by decide +kernel))) (by decide +kernel))⟩, rfl, by decide +kernel, tyX3, tyX3_ok, nmX3⟩
set_option maxHeartbeats 4000000 in
set_option maxRecDepth 20000 in
theorem sgX5_tellNeed_0 {κ : Kx} {K : Kont} {M : Mem} (C : Cx κ RX5 cX5_tellNeed 2 (some .boolean) rmX5_tellNeed domC) (i1 : Int)
    (h :
    (((M 2 0 2) ≠ 2 →
      K (some 0) M) ∧
     (¬ ((M 2 0 2) ≠ 2) →
      spX5_allShort M (rI (fun r9 M9 =>
      ((r9 = 0 →
        K (some 0) M9) ∧
       (¬ (r9 = 0) →
        (((M9 5 i1 7) ≤ (M9 3 0 1) →
          K (some 0) M9) ∧
         (¬ ((M9 5 i1 7) ≤ (M9 3 0 1)) →
          (((M9 3 0 1) ≤ (M9 3 0 0) →
            K (some 0) M9) ∧
           (¬ ((M9 3 0 1) ≤ (M9 3 0 0)) →
            (0 ≤ (M9 3 0 1) ∧ (M9 3 0 1) < 7) ∧
            (((M9 11 (7 * i1 + (M9 3 0 1)) 3) = (-4) →
              (0 ≤ (M9 3 0 1) ∧ (M9 3 0 1) < 7) ∧
              ∀ M81 : Mem, M81 = up3 M9 11 (7 * i1 + (M9 3 0 1)) 3 (M9 3 0 0) →
              K (some 1) M81) ∧
             (¬ ((M9 11 (7 * i1 + (M9 3 0 1)) 3) = (-4)) →
              K (some 0) M9))))))))))))) : V κ 2 M 0 [some (.inr (2, 0)), some (.inr (5, i1))] [] K := by
  refine v_aload_n C dX5_tellNeed_0 rfl ?_
  refine v_get C dX5_tellNeed_1 flX5_39 rfl (by decide) (by decide) (w := .inl (M 2 0 2)) rfl ?_
  refine v_iconst C dX5_tellNeed_4 (by decide) ?_
  refine v_icmp C dX5_tellNeed_5 (tgt := 62) (by decide) (P := (M 2 0 2) ≠ 2) rfl (fun c5 => ?_) (fun c5 => ?_)
  · replace h := h.1 c5
    refine v_iconst C dX5_tellNeed_62 (by decide) ?_
    exact v_zret C dX5_tellNeed_63 (by decide) h
  · replace h := h.2 c5
    refine v_aload_n C dX5_tellNeed_8 rfl ?_
    refine v_invV C ctX5_allShort dX5_tellNeed_9 ivX5_96 ⟨by decide, by decide, rfl, rfl⟩ (() : Unit) (As := []) rfl rfl rfl (by decide) rfl (st := []) rfl (Nat.le_of_ble_eq_true rfl) h (fun o M9 oM9 io9 h => ?_)
    obtain ⟨r9, rfl, h⟩ := rI_out h
    refine v_push ?_
    refine v_if C dX5_tellNeed_12 (tgt := 62) (by decide) (P := r9 = 0) rfl (fun c12 => ?_) (fun c12 => ?_)
    · replace h := h.1 c12
      refine v_iconst C dX5_tellNeed_62 (by decide) ?_
      exact v_zret C dX5_tellNeed_63 (by decide) h
    · replace h := h.2 c12
      refine v_aload_n C dX5_tellNeed_15 rfl ?_
      refine v_get C dX5_tellNeed_16 flX5_9 rfl (by decide) (by decide) (w := .inr (3, 0)) rfl ?_
      refine v_iconst C dX5_tellNeed_19 (by decide) ?_
      refine v_iald C dX5_tellNeed_20 rfl (by decide) (by decide) ?_
      refine v_aload_n C dX5_tellNeed_21 rfl ?_
      refine v_get C dX5_tellNeed_22 flX5_77 rfl (by decide) (by decide) (w := .inl (M9 5 i1 7)) rfl ?_
      refine v_icmp C dX5_tellNeed_25 (tgt := 62) (by decide) (P := (M9 5 i1 7) ≤ (M9 3 0 1)) rfl (fun c25 => ?_) (fun c25 => ?_)
      · replace h := h.1 c25
        refine v_iconst C dX5_tellNeed_62 (by decide) ?_
        exact v_zret C dX5_tellNeed_63 (by decide) h
      · replace h := h.2 c25
        refine v_aload_n C dX5_tellNeed_28 rfl ?_
        refine v_get C dX5_tellNeed_29 flX5_9 rfl (by decide) (by decide) (w := .inr (3, 0)) rfl ?_
        refine v_iconst C dX5_tellNeed_32 (by decide) ?_
        refine v_iald C dX5_tellNeed_33 rfl (by decide) (by decide) ?_
        refine v_aload_n C dX5_tellNeed_34 rfl ?_
        refine v_get C dX5_tellNeed_35 flX5_9 rfl (by decide) (by decide) (w := .inr (3, 0)) rfl ?_
        refine v_iconst C dX5_tellNeed_38 (by decide) ?_
        refine v_iald C dX5_tellNeed_39 rfl (by decide) (by decide) ?_
        refine v_icmp C dX5_tellNeed_40 (tgt := 62) (by decide) (P := (M9 3 0 1) ≤ (M9 3 0 0)) rfl (fun c40 => ?_) (fun c40 => ?_)
        · replace h := h.1 c40
          refine v_iconst C dX5_tellNeed_62 (by decide) ?_
          exact v_zret C dX5_tellNeed_63 (by decide) h
        · replace h := h.2 c40
          refine v_aload_n C dX5_tellNeed_43 rfl ?_
          refine v_get C dX5_tellNeed_44 flX5_83 rfl (by decide) (by decide) (w := .inr (10, i1)) rfl ?_
          refine v_aload_n C dX5_tellNeed_47 rfl ?_
          refine v_get C dX5_tellNeed_48 flX5_9 rfl (by decide) (by decide) (w := .inr (3, 0)) rfl ?_
          refine v_iconst C dX5_tellNeed_51 (by decide) ?_
          refine v_iald C dX5_tellNeed_52 rfl (by decide) (by decide) ?_
          refine v_aald C dX5_tellNeed_53 h.1.1 h.1.2 ?_
          replace h := h.2
          refine v_get C dX5_tellNeed_54 flX5_100 rfl (by decide) (by decide) (w := .inl (M9 11 (7 * i1 + (M9 3 0 1)) 3)) rfl ?_
          refine v_bipush C dX5_tellNeed_57 (by decide) (by decide) ?_
          refine v_icmp C dX5_tellNeed_59 (tgt := 64) (by decide) (P := (M9 11 (7 * i1 + (M9 3 0 1)) 3) = (-4)) rfl (fun c59 => ?_) (fun c59 => ?_)
          · replace h := h.1 c59
            refine v_aload_n C dX5_tellNeed_64 rfl ?_
            refine v_get C dX5_tellNeed_65 flX5_83 rfl (by decide) (by decide) (w := .inr (10, i1)) rfl ?_
            refine v_aload_n C dX5_tellNeed_68 rfl ?_
            refine v_get C dX5_tellNeed_69 flX5_9 rfl (by decide) (by decide) (w := .inr (3, 0)) rfl ?_
            refine v_iconst C dX5_tellNeed_72 (by decide) ?_
            refine v_iald C dX5_tellNeed_73 rfl (by decide) (by decide) ?_
            refine v_aald C dX5_tellNeed_74 h.1.1 h.1.2 ?_
            replace h := h.2
            refine v_aload_n C dX5_tellNeed_75 rfl ?_
            refine v_get C dX5_tellNeed_76 flX5_9 rfl (by decide) (by decide) (w := .inr (3, 0)) rfl ?_
            refine v_iconst C dX5_tellNeed_79 (by decide) ?_
            refine v_iald C dX5_tellNeed_80 rfl (by decide) (by decide) ?_
            refine v_put C dX5_tellNeed_81 plX5_100 rfl (by decide) (by decide) rfl rfl rfl ?_
            refine v_nmM (fun M81 eM81 => ?_)
            replace h := h M81 eM81
            refine v_iconst C dX5_tellNeed_84 (by decide) ?_
            exact v_zret C dX5_tellNeed_85 (by decide) h
          · replace h := h.2 c59
            refine v_iconst C dX5_tellNeed_62 (by decide) ?_
            exact v_zret C dX5_tellNeed_63 (by decide) h
def itN (F : Film) (l : List (Int × Int)) : Option Film := if l.length = 2 ∧ shortB l = true ∧ aN l 1 < F 3 0 0 ∧ aN l 0 < aN l 1 ∧ F 12 (aN l 1) 0 = -4 then some (sFN F (aN l 1) (aN l 0)) else none
abbrev spX5_tellNeed (f : Int) (M : Mem) (K : Kont) : Prop := (M 5 f 7 ≤ 7) ∧ ∃ l, RdK M l ∧ resK M f K (itN (cFilm M f) l)
theorem ctX5_tellNeed : CtX5_tellNeed spX5_tellNeed := by
  refine ct_of (by decide) dmC (fun _ => Nat.le_of_ble_eq_true rfl) ?_
  intro κ f M K C oM h
  obtain ⟨hn, l, hr, hk⟩ := h
  have hlen := hr.2.1
  have h0 := hr.at (k := 0) (by omega)
  have h2 := hr.1
  have e0 : M 3 0 0 = aN l 0 := h0.1.1
  have g0 : 0 ≤ aN l 0 := h0.2.1.1
  have eP : cFilm M f 3 0 0 = M 5 f 7 := rfl
  have eN : cFilm M f 12 (aN l 1) 0 = M 11 (7 * f + aN l 1) 3 := rfl
  unfold itN at hk
  rw [eP, eN] at hk
  have no : ¬ (l.length = 2 ∧ shortB l = true ∧ aN l 1 < M 5 f 7 ∧ aN l 0 < aN l 1 ∧ M 11 (7 * f + aN l 1) 3 = -4) → K (some 0) M := fun z => by rw [if_neg z] at hk; exact hk
  refine sgX5_tellNeed_0 C f ⟨fun c => no (by omega), fun c => ⟨l, hr, ?_, ?_⟩⟩
  · intro c2
    refine no (fun z => ?_)
    rw [z.2.1] at c2
    exact absurd c2 (by decide)
  · intro c2
    have hs : shortB l = true := by
      cases z : shortB l
      · rw [z] at c2
        exact absurd rfl c2
      · rfl
    have h1 := hr.at (k := 1) (by omega)
    have e1 : M 3 0 1 = aN l 1 := h1.1.1
    have g1 : 0 ≤ aN l 1 := h1.2.1.1
    rw [e0, e1]
    refine ⟨fun c3 => no (by omega), fun c3 => ⟨fun c4 => no (by omega), fun c4 => ⟨by omega, fun c5 => ⟨by omega, fun N eN2 => ?_⟩, fun c5 => no (by omega)⟩⟩⟩
    rw [if_pos ⟨by omega, hs, by omega, by omega, c5⟩] at hk
    refine hk N (by rw [eN2]; exact AgM.rf.up2 (by decide) (by omega) _ _) ?_
    rw [eN2]
    funext t a b
    have e : ∀ a : Int, (7 * f + a = 7 * f + aN l 1) = (a = aN l 1) := fun a => by apply propext; omega
    unfold cFilm sFN
    split <;> simp [up3, e]
    all_goals simp_all
end
section
/-! ===== TextReader: pictures, items, texts ===== -/
/-! ===== GapTellings$TextReader.isPicture ===== -/
abbrev rmX5_isPicture : Room := { frames := 1, cells := 0, slots := 0, locals := 21 }
abbrev argX5_isPicture (a : Int) : List PV := [.inr (2, 0), .inr (5, a)]
abbrev CtX5_isPicture (sp : Int → Mem → Kont → Prop) : Prop := Ct yX5_isPicture cX5_isPicture 3 (some .boolean) rmX5_isPicture domC argX5_isPicture (fun a => sp a)
theorem dX5_isPicture_0 : decode cX5_isPicture 0 = .ok (.aload_n 0, 1) := by decide +kernel
theorem dX5_isPicture_1 : decode cX5_isPicture 1 = .ok (.getfield 39, 3) := by decide +kernel
theorem dX5_isPicture_4 : decode cX5_isPicture 4 = .ok (.iconst 5, 1) := by decide +kernel
theorem dX5_isPicture_5 : decode cX5_isPicture 5 = .ok (.if_icmp .lt 54, 3) := by decide +kernel
theorem dX5_isPicture_8 : decode cX5_isPicture 8 = .ok (.aload_n 0, 1) := by decide +kernel
theorem dX5_isPicture_9 : decode cX5_isPicture 9 = .ok (.getfield 39, 3) := by decide +kernel
theorem dX5_isPicture_12 : decode cX5_isPicture 12 = .ok (.iconst 2, 1) := by decide +kernel
theorem dX5_isPicture_13 : decode cX5_isPicture 13 = .ok (.irem, 1) := by decide +kernel
theorem dX5_isPicture_14 : decode cX5_isPicture 14 = .ok (.ifCond .eq 45, 3) := by decide +kernel
theorem dX5_isPicture_17 : decode cX5_isPicture 17 = .ok (.aload_n 0, 1) := by decide +kernel
theorem dX5_isPicture_18 : decode cX5_isPicture 18 = .ok (.invokevirtual 96, 3) := by decide +kernel
theorem dX5_isPicture_21 : decode cX5_isPicture 21 = .ok (.ifCond .eq 38, 3) := by decide +kernel
theorem dX5_isPicture_24 : decode cX5_isPicture 24 = .ok (.aload_n 0, 1) := by decide +kernel
theorem dX5_isPicture_25 : decode cX5_isPicture 25 = .ok (.getfield 9, 3) := by decide +kernel
theorem dX5_isPicture_28 : decode cX5_isPicture 28 = .ok (.iconst 0, 1) := by decide +kernel
theorem dX5_isPicture_29 : decode cX5_isPicture 29 = .ok (.iaload, 1) := by decide +kernel
theorem dX5_isPicture_30 : decode cX5_isPicture 30 = .ok (.aload_n 1, 1) := by decide +kernel
theorem dX5_isPicture_31 : decode cX5_isPicture 31 = .ok (.getfield 46, 3) := by decide +kernel
theorem dX5_isPicture_34 : decode cX5_isPicture 34 = .ok (.if_icmp .ge 25, 3) := by decide +kernel
theorem dX5_isPicture_37 : decode cX5_isPicture 37 = .ok (.aload_n 0, 1) := by decide +kernel
theorem dX5_isPicture_38 : decode cX5_isPicture 38 = .ok (.getfield 9, 3) := by decide +kernel
theorem dX5_isPicture_41 : decode cX5_isPicture 41 = .ok (.iconst 1, 1) := by decide +kernel
theorem dX5_isPicture_42 : decode cX5_isPicture 42 = .ok (.iaload, 1) := by decide +kernel
theorem dX5_isPicture_43 : decode cX5_isPicture 43 = .ok (.bipush 20, 2) := by decide +kernel
theorem dX5_isPicture_45 : decode cX5_isPicture 45 = .ok (.if_icmp .gt 14, 3) := by decide +kernel
theorem dX5_isPicture_48 : decode cX5_isPicture 48 = .ok (.aload_n 0, 1) := by decide +kernel
theorem dX5_isPicture_49 : decode cX5_isPicture 49 = .ok (.getfield 9, 3) := by decide +kernel
theorem dX5_isPicture_52 : decode cX5_isPicture 52 = .ok (.iconst 2, 1) := by decide +kernel
theorem dX5_isPicture_53 : decode cX5_isPicture 53 = .ok (.iaload, 1) := by decide +kernel
theorem dX5_isPicture_54 : decode cX5_isPicture 54 = .ok (.bipush 20, 2) := by decide +kernel
theorem dX5_isPicture_56 : decode cX5_isPicture 56 = .ok (.if_icmp .le 5, 3) := by decide +kernel
theorem dX5_isPicture_59 : decode cX5_isPicture 59 = .ok (.iconst 0, 1) := by decide +kernel
theorem dX5_isPicture_60 : decode cX5_isPicture 60 = .ok (.ireturn, 1) := by decide +kernel
theorem dX5_isPicture_61 : decode cX5_isPicture 61 = .ok (.iconst 3, 1) := by decide +kernel
theorem dX5_isPicture_62 : decode cX5_isPicture 62 = .ok (.istore_n 2, 1) := by decide +kernel
theorem dX5_isPicture_63 : decode cX5_isPicture 63 = .ok (.iload_n 2, 1) := by decide +kernel
theorem dX5_isPicture_64 : decode cX5_isPicture 64 = .ok (.iconst 1, 1) := by decide +kernel
theorem dX5_isPicture_65 : decode cX5_isPicture 65 = .ok (.iadd, 1) := by decide +kernel
theorem dX5_isPicture_66 : decode cX5_isPicture 66 = .ok (.aload_n 0, 1) := by decide +kernel
theorem dX5_isPicture_67 : decode cX5_isPicture 67 = .ok (.getfield 39, 3) := by decide +kernel
theorem dX5_isPicture_70 : decode cX5_isPicture 70 = .ok (.if_icmp .ge 57, 3) := by decide +kernel
theorem dX5_isPicture_73 : decode cX5_isPicture 73 = .ok (.aload_n 0, 1) := by decide +kernel
theorem dX5_isPicture_74 : decode cX5_isPicture 74 = .ok (.getfield 9, 3) := by decide +kernel
theorem dX5_isPicture_77 : decode cX5_isPicture 77 = .ok (.iload_n 2, 1) := by decide +kernel
theorem dX5_isPicture_78 : decode cX5_isPicture 78 = .ok (.iaload, 1) := by decide +kernel
theorem dX5_isPicture_79 : decode cX5_isPicture 79 = .ok (.iconst 1, 1) := by decide +kernel
theorem dX5_isPicture_80 : decode cX5_isPicture 80 = .ok (.if_icmp .lt 39, 3) := by decide +kernel
theorem dX5_isPicture_83 : decode cX5_isPicture 83 = .ok (.aload_n 0, 1) := by decide +kernel
theorem dX5_isPicture_84 : decode cX5_isPicture 84 = .ok (.getfield 9, 3) := by decide +kernel
theorem dX5_isPicture_87 : decode cX5_isPicture 87 = .ok (.iload_n 2, 1) := by decide +kernel
theorem dX5_isPicture_88 : decode cX5_isPicture 88 = .ok (.iaload, 1) := by decide +kernel
theorem dX5_isPicture_89 : decode cX5_isPicture 89 = .ok (.bipush 30, 2) := by decide +kernel
theorem dX5_isPicture_91 : decode cX5_isPicture 91 = .ok (.if_icmp .gt 28, 3) := by decide +kernel
theorem dX5_isPicture_94 : decode cX5_isPicture 94 = .ok (.aload_n 0, 1) := by decide +kernel
theorem dX5_isPicture_95 : decode cX5_isPicture 95 = .ok (.getfield 9, 3) := by decide +kernel
theorem dX5_isPicture_98 : decode cX5_isPicture 98 = .ok (.iload_n 2, 1) := by decide +kernel
theorem dX5_isPicture_99 : decode cX5_isPicture 99 = .ok (.iconst 1, 1) := by decide +kernel
theorem dX5_isPicture_100 : decode cX5_isPicture 100 = .ok (.iadd, 1) := by decide +kernel
theorem dX5_isPicture_101 : decode cX5_isPicture 101 = .ok (.iaload, 1) := by decide +kernel
theorem dX5_isPicture_102 : decode cX5_isPicture 102 = .ok (.iconst 1, 1) := by decide +kernel
theorem dX5_isPicture_103 : decode cX5_isPicture 103 = .ok (.if_icmp .lt 16, 3) := by decide +kernel
theorem dX5_isPicture_106 : decode cX5_isPicture 106 = .ok (.aload_n 0, 1) := by decide +kernel
theorem dX5_isPicture_107 : decode cX5_isPicture 107 = .ok (.getfield 9, 3) := by decide +kernel
theorem dX5_isPicture_110 : decode cX5_isPicture 110 = .ok (.iload_n 2, 1) := by decide +kernel
theorem dX5_isPicture_111 : decode cX5_isPicture 111 = .ok (.iconst 1, 1) := by decide +kernel
theorem dX5_isPicture_112 : decode cX5_isPicture 112 = .ok (.iadd, 1) := by decide +kernel
theorem dX5_isPicture_113 : decode cX5_isPicture 113 = .ok (.iaload, 1) := by decide +kernel
theorem dX5_isPicture_114 : decode cX5_isPicture 114 = .ok (.bipush 99, 2) := by decide +kernel
theorem dX5_isPicture_116 : decode cX5_isPicture 116 = .ok (.if_icmp .le 5, 3) := by decide +kernel
theorem dX5_isPicture_119 : decode cX5_isPicture 119 = .ok (.iconst 0, 1) := by decide +kernel
theorem dX5_isPicture_120 : decode cX5_isPicture 120 = .ok (.ireturn, 1) := by decide +kernel
theorem dX5_isPicture_121 : decode cX5_isPicture 121 = .ok (.iinc 2 2, 3) := by decide +kernel
theorem dX5_isPicture_124 : decode cX5_isPicture 124 = .ok (.goto (-61), 3) := by decide +kernel
theorem dX5_isPicture_127 : decode cX5_isPicture 127 = .ok (.iconst 1, 1) := by decide +kernel
theorem dX5_isPicture_128 : decode cX5_isPicture 128 = .ok (.ireturn, 1) := by decide +kernel
set_option maxHeartbeats 4000000 in
set_option maxRecDepth 20000 in
theorem sgX5_isPicture_0 {κ : Kx} {K : Kont} {M : Mem} (C : Cx κ RX5 cX5_isPicture 3 (some .boolean) rmX5_isPicture domC) (i1 : Int)
    (h :
    (((M 2 0 2) < 5 →
      K (some 0) M) ∧
     (¬ ((M 2 0 2) < 5) →
      0 ≤ (M 2 0 2) ∧
      ((((M 2 0 2) % 2) = 0 →
        K (some 0) M) ∧
       (¬ (((M 2 0 2) % 2) = 0) →
        spX5_allShort M (rI (fun r18 M18 =>
        ((r18 = 0 →
          K (some 0) M18) ∧
         (¬ (r18 = 0) →
          (((M18 5 i1 0) ≤ (M18 3 0 0) →
            K (some 0) M18) ∧
           (¬ ((M18 5 i1 0) ≤ (M18 3 0 0)) →
            ((20 < (M18 3 0 1) →
              K (some 0) M18) ∧
             (¬ (20 < (M18 3 0 1)) →
              (((M18 3 0 2) ≤ 20 →
                V κ 3 M18 63 [some (.inr (2, 0)), none, some (.inl 3)] [] K) ∧
               (¬ ((M18 3 0 2) ≤ 20) →
                K (some 0) M18))))))))))))))) : V κ 3 M 0 [some (.inr (2, 0)), some (.inr (5, i1)), none] [] K := by
  refine v_aload_n C dX5_isPicture_0 rfl ?_
  refine v_get C dX5_isPicture_1 flX5_39 rfl (by decide) (by decide) (w := .inl (M 2 0 2)) rfl ?_
  refine v_iconst C dX5_isPicture_4 (by decide) ?_
  refine v_icmp C dX5_isPicture_5 (tgt := 59) (by decide) (P := (M 2 0 2) < 5) rfl (fun c5 => ?_) (fun c5 => ?_)
  · replace h := h.1 c5
    refine v_iconst C dX5_isPicture_59 (by decide) ?_
    exact v_zret C dX5_isPicture_60 (by decide) h
  · replace h := h.2 c5
    refine v_aload_n C dX5_isPicture_8 rfl ?_
    refine v_get C dX5_isPicture_9 flX5_39 rfl (by decide) (by decide) (w := .inl (M 2 0 2)) rfl ?_
    refine v_iconst C dX5_isPicture_12 (by decide) ?_
    refine v_irem C dX5_isPicture_13 h.1 (by decide) ?_
    replace h := h.2
    refine v_if C dX5_isPicture_14 (tgt := 59) (by decide) (P := ((M 2 0 2) % 2) = 0) rfl (fun c14 => ?_) (fun c14 => ?_)
    · replace h := h.1 c14
      refine v_iconst C dX5_isPicture_59 (by decide) ?_
      exact v_zret C dX5_isPicture_60 (by decide) h
    · replace h := h.2 c14
      refine v_aload_n C dX5_isPicture_17 rfl ?_
      refine v_invV C ctX5_allShort dX5_isPicture_18 ivX5_96 ⟨by decide, by decide, rfl, rfl⟩ (() : Unit) (As := []) rfl rfl rfl (by decide) rfl (st := []) rfl (Nat.le_of_ble_eq_true rfl) h (fun o M18 oM18 io18 h => ?_)
      obtain ⟨r18, rfl, h⟩ := rI_out h
      refine v_push ?_
      refine v_if C dX5_isPicture_21 (tgt := 59) (by decide) (P := r18 = 0) rfl (fun c21 => ?_) (fun c21 => ?_)
      · replace h := h.1 c21
        refine v_iconst C dX5_isPicture_59 (by decide) ?_
        exact v_zret C dX5_isPicture_60 (by decide) h
      · replace h := h.2 c21
        refine v_aload_n C dX5_isPicture_24 rfl ?_
        refine v_get C dX5_isPicture_25 flX5_9 rfl (by decide) (by decide) (w := .inr (3, 0)) rfl ?_
        refine v_iconst C dX5_isPicture_28 (by decide) ?_
        refine v_iald C dX5_isPicture_29 rfl (by decide) (by decide) ?_
        refine v_aload_n C dX5_isPicture_30 rfl ?_
        refine v_get C dX5_isPicture_31 flX5_46 rfl (by decide) (by decide) (w := .inl (M18 5 i1 0)) rfl ?_
        refine v_icmp C dX5_isPicture_34 (tgt := 59) (by decide) (P := (M18 5 i1 0) ≤ (M18 3 0 0)) rfl (fun c34 => ?_) (fun c34 => ?_)
        · replace h := h.1 c34
          refine v_iconst C dX5_isPicture_59 (by decide) ?_
          exact v_zret C dX5_isPicture_60 (by decide) h
        · replace h := h.2 c34
          refine v_aload_n C dX5_isPicture_37 rfl ?_
          refine v_get C dX5_isPicture_38 flX5_9 rfl (by decide) (by decide) (w := .inr (3, 0)) rfl ?_
          refine v_iconst C dX5_isPicture_41 (by decide) ?_
          refine v_iald C dX5_isPicture_42 rfl (by decide) (by decide) ?_
          refine v_bipush C dX5_isPicture_43 (by decide) (by decide) ?_
          refine v_icmp C dX5_isPicture_45 (tgt := 59) (by decide) (P := 20 < (M18 3 0 1)) rfl (fun c45 => ?_) (fun c45 => ?_)
          · replace h := h.1 c45
            refine v_iconst C dX5_isPicture_59 (by decide) ?_
            exact v_zret C dX5_isPicture_60 (by decide) h
          · replace h := h.2 c45
            refine v_aload_n C dX5_isPicture_48 rfl ?_
            refine v_get C dX5_isPicture_49 flX5_9 rfl (by decide) (by decide) (w := .inr (3, 0)) rfl ?_
            refine v_iconst C dX5_isPicture_52 (by decide) ?_
            refine v_iald C dX5_isPicture_53 rfl (by decide) (by decide) ?_
            refine v_bipush C dX5_isPicture_54 (by decide) (by decide) ?_
            refine v_icmp C dX5_isPicture_56 (tgt := 61) (by decide) (P := (M18 3 0 2) ≤ 20) rfl (fun c56 => ?_) (fun c56 => ?_)
            · replace h := h.1 c56
              refine v_iconst C dX5_isPicture_61 (by decide) ?_
              refine v_istore_n C dX5_isPicture_62 (by decide) (Nat.le_of_ble_eq_true rfl) (lv' := [some (.inr (2, 0)), some (.inr (5, i1)), some (.inl 3)]) rfl ?_
              refine v_weak [some (.inr (2, 0)), none, some (.inl 3)] ⟨rfl, rfl, trivial⟩ ?_
              exact h
            · replace h := h.2 c56
              refine v_iconst C dX5_isPicture_59 (by decide) ?_
              exact v_zret C dX5_isPicture_60 (by decide) h
set_option maxHeartbeats 4000000 in
set_option maxRecDepth 20000 in
theorem sgX5_isPicture_63 {κ : Kx} {K : Kont} {M : Mem} (C : Cx κ RX5 cX5_isPicture 3 (some .boolean) rmX5_isPicture domC) (x2 : Int)
    (h :
    inR (x2 + 1) ∧
    (((M 2 0 2) ≤ (x2 + 1) →
      K (some 1) M) ∧
     (¬ ((M 2 0 2) ≤ (x2 + 1)) →
      (0 ≤ x2 ∧ x2 < 9) ∧
      (((M 3 0 x2) < 1 →
        K (some 0) M) ∧
       (¬ ((M 3 0 x2) < 1) →
        (0 ≤ x2 ∧ x2 < 9) ∧
        ((30 < (M 3 0 x2) →
          K (some 0) M) ∧
         (¬ (30 < (M 3 0 x2)) →
          inR (x2 + 1) ∧
          (0 ≤ (x2 + 1) ∧ (x2 + 1) < 9) ∧
          (((M 3 0 (x2 + 1)) < 1 →
            K (some 0) M) ∧
           (¬ ((M 3 0 (x2 + 1)) < 1) →
            inR (x2 + 1) ∧
            (0 ≤ (x2 + 1) ∧ (x2 + 1) < 9) ∧
            (((M 3 0 (x2 + 1)) ≤ 99 →
              inR (x2 + 2) ∧
              V κ 3 M 63 [some (.inr (2, 0)), none, some (.inl (x2 + 2))] [] K) ∧
             (¬ ((M 3 0 (x2 + 1)) ≤ 99) →
              K (some 0) M))))))))))) : V κ 3 M 63 [some (.inr (2, 0)), none, some (.inl x2)] [] K := by
  refine v_iload_n C dX5_isPicture_63 rfl ?_
  refine v_iconst C dX5_isPicture_64 (by decide) ?_
  refine v_iadd C dX5_isPicture_65 h.1 ?_
  replace h := h.2
  refine v_aload_n C dX5_isPicture_66 rfl ?_
  refine v_get C dX5_isPicture_67 flX5_39 rfl (by decide) (by decide) (w := .inl (M 2 0 2)) rfl ?_
  refine v_icmp C dX5_isPicture_70 (tgt := 127) (by decide) (P := (M 2 0 2) ≤ (x2 + 1)) rfl (fun c70 => ?_) (fun c70 => ?_)
  · replace h := h.1 c70
    refine v_iconst C dX5_isPicture_127 (by decide) ?_
    exact v_zret C dX5_isPicture_128 (by decide) h
  · replace h := h.2 c70
    refine v_aload_n C dX5_isPicture_73 rfl ?_
    refine v_get C dX5_isPicture_74 flX5_9 rfl (by decide) (by decide) (w := .inr (3, 0)) rfl ?_
    refine v_iload_n C dX5_isPicture_77 rfl ?_
    refine v_iald C dX5_isPicture_78 rfl h.1.1 h.1.2 ?_
    replace h := h.2
    refine v_iconst C dX5_isPicture_79 (by decide) ?_
    refine v_icmp C dX5_isPicture_80 (tgt := 119) (by decide) (P := (M 3 0 x2) < 1) rfl (fun c80 => ?_) (fun c80 => ?_)
    · replace h := h.1 c80
      refine v_iconst C dX5_isPicture_119 (by decide) ?_
      exact v_zret C dX5_isPicture_120 (by decide) h
    · replace h := h.2 c80
      refine v_aload_n C dX5_isPicture_83 rfl ?_
      refine v_get C dX5_isPicture_84 flX5_9 rfl (by decide) (by decide) (w := .inr (3, 0)) rfl ?_
      refine v_iload_n C dX5_isPicture_87 rfl ?_
      refine v_iald C dX5_isPicture_88 rfl h.1.1 h.1.2 ?_
      replace h := h.2
      refine v_bipush C dX5_isPicture_89 (by decide) (by decide) ?_
      refine v_icmp C dX5_isPicture_91 (tgt := 119) (by decide) (P := 30 < (M 3 0 x2)) rfl (fun c91 => ?_) (fun c91 => ?_)
      · replace h := h.1 c91
        refine v_iconst C dX5_isPicture_119 (by decide) ?_
        exact v_zret C dX5_isPicture_120 (by decide) h
      · replace h := h.2 c91
        refine v_aload_n C dX5_isPicture_94 rfl ?_
        refine v_get C dX5_isPicture_95 flX5_9 rfl (by decide) (by decide) (w := .inr (3, 0)) rfl ?_
        refine v_iload_n C dX5_isPicture_98 rfl ?_
        refine v_iconst C dX5_isPicture_99 (by decide) ?_
        refine v_iadd C dX5_isPicture_100 h.1 ?_
        replace h := h.2
        refine v_iald C dX5_isPicture_101 rfl h.1.1 h.1.2 ?_
        replace h := h.2
        refine v_iconst C dX5_isPicture_102 (by decide) ?_
        refine v_icmp C dX5_isPicture_103 (tgt := 119) (by decide) (P := (M 3 0 (x2 + 1)) < 1) rfl (fun c103 => ?_) (fun c103 => ?_)
        · replace h := h.1 c103
          refine v_iconst C dX5_isPicture_119 (by decide) ?_
          exact v_zret C dX5_isPicture_120 (by decide) h
        · replace h := h.2 c103
          refine v_aload_n C dX5_isPicture_106 rfl ?_
          refine v_get C dX5_isPicture_107 flX5_9 rfl (by decide) (by decide) (w := .inr (3, 0)) rfl ?_
          refine v_iload_n C dX5_isPicture_110 rfl ?_
          refine v_iconst C dX5_isPicture_111 (by decide) ?_
          refine v_iadd C dX5_isPicture_112 h.1 ?_
          replace h := h.2
          refine v_iald C dX5_isPicture_113 rfl h.1.1 h.1.2 ?_
          replace h := h.2
          refine v_bipush C dX5_isPicture_114 (by decide) (by decide) ?_
          refine v_icmp C dX5_isPicture_116 (tgt := 121) (by decide) (P := (M 3 0 (x2 + 1)) ≤ 99) rfl (fun c116 => ?_) (fun c116 => ?_)
          · replace h := h.1 c116
            refine v_iinc C dX5_isPicture_121 (by decide) rfl h.1 (lv' := [some (.inr (2, 0)), none, some (.inl (x2 + 2))]) rfl ?_
            replace h := h.2
            refine v_goto C dX5_isPicture_124 (tgt := 63) (by decide) ?_
            refine v_weak [some (.inr (2, 0)), none, some (.inl (x2 + 2))] ⟨rfl, rfl, trivial⟩ ?_
            exact h
          · replace h := h.2 c116
            refine v_iconst C dX5_isPicture_119 (by decide) ?_
            exact v_zret C dX5_isPicture_120 (by decide) h
/-- versions from a place on are so -/
def vok (l : List (Int × Int)) : Nat → Nat → Bool
  | 0, _ => true
  | n + 1, i => if i + 1 < l.length then decide (1 ≤ aN l i ∧ aN l i ≤ 30 ∧ 1 ≤ aN l (i + 1) ∧ aN l (i + 1) ≤ 99) && vok l n (i + 2) else true
abbrev picOk (T : Int) (l : List (Int × Int)) : Prop := 5 ≤ l.length ∧ l.length % 2 = 1 ∧ shortB l = true ∧ aN l 0 < T ∧ aN l 1 ≤ 20 ∧ aN l 2 ≤ 20 ∧ vok l 4 3 = true
abbrev spX5_isPicture (f : Int) (M : Mem) (K : Kont) : Prop := ∃ l, RdK M l ∧ K (some (if picOk (M 5 f 0) l then 1 else 0)) M
theorem ctX5_isPicture : CtX5_isPicture spX5_isPicture := by
  refine ct_of (by decide) dmC (fun _ => Nat.le_of_ble_eq_true rfl) ?_
  intro κ f M K C oM h
  obtain ⟨l, hr, hk⟩ := h
  have hlen := hr.2.1
  have h2 := hr.1
  have no : ¬ picOk (M 5 f 0) l → K (some 0) M := fun z => by rw [if_neg z] at hk; exact hk
  have loop : ∀ (n i : Nat), i % 2 = 1 → i + 2 * n = 11 → l.length % 2 = 1 → (vok l n i = true → K (some 1) M) → (vok l n i = false → K (some 0) M) → V κ 3 M 63 [some (.inr (2, 0)), none, some (.inl (i : Int))] [] K := by
    intro n
    induction n with
    | zero =>
      intro i hi hn hodd k1 k0
      refine sgX5_isPicture_63 C i ⟨by omega, fun c => k1 rfl, fun c => absurd (by omega) c⟩
    | succ n ih =>
      intro i hi hn hodd k1 k0
      unfold vok at k1 k0
      refine sgX5_isPicture_63 C i ⟨by omega, fun c => ?_, fun c => ?_⟩
      · rw [if_neg (by omega)] at k1
        exact k1 rfl
      · have hc : i + 1 < l.length := by omega
        rw [if_pos hc] at k1 k0
        have ai := (hr.at (k := i) (by omega)).1.1
        have aj := (hr.at (k := i + 1) hc).1.1
        have ai' : M 3 0 (i : Int) = aN l i := ai
        have aj' : M 3 0 ((i : Int) + 1) = aN l (i + 1) := aj
        have bad : ¬ (1 ≤ aN l i ∧ aN l i ≤ 30 ∧ 1 ≤ aN l (i + 1) ∧ aN l (i + 1) ≤ 99) → K (some 0) M := by
          intro z
          apply k0
          rw [decide_eq_false z]
          rfl
        rw [ai', aj']
        refine ⟨by omega, fun c2 => bad (by omega), fun c2 => ⟨by omega, fun c3 => bad (by omega), fun c3 => ⟨by omega, by omega, fun c4 => bad (by omega), fun c4 => ⟨by omega, by omega, fun c5 => ⟨by omega, ?_⟩, fun c5 => bad (by omega)⟩⟩⟩⟩
        rw [decide_eq_true (show 1 ≤ aN l i ∧ aN l i ≤ 30 ∧ 1 ≤ aN l (i + 1) ∧ aN l (i + 1) ≤ 99 by omega), Bool.true_and] at k1 k0
        have := ih (i + 2) (by omega) (by omega) hodd k1 k0
        exact this
  refine sgX5_isPicture_0 C f ⟨fun c => no (by intro z; have := z.1; omega), fun c => ⟨by omega, fun c2 => no (by intro z; have := z.2.1; omega), fun c2 => ⟨l, hr, fun c3 => no ?_, fun c3 => ?_⟩⟩⟩
  · intro z
    rw [z.2.2.1] at c3
    exact absurd c3 (by decide)
  · have hs : shortB l = true := by
      cases z : shortB l
      · rw [z] at c3
        exact absurd rfl c3
      · rfl
    have e0 : M 3 0 0 = aN l 0 := (hr.at (k := 0) (by omega)).1.1
    have e1 : M 3 0 1 = aN l 1 := (hr.at (k := 1) (by omega)).1.1
    have e2 : M 3 0 2 = aN l 2 := (hr.at (k := 2) (by omega)).1.1
    rw [e0, e1, e2]
    refine ⟨fun c4 => no (by intro z; have := z.2.2.2.1; omega), fun c4 => ⟨fun c5 => no (by intro z; have := z.2.2.2.2.1; omega), fun c5 => ⟨fun c6 => ?_, fun c6 => no (by intro z; have := z.2.2.2.2.2.1; omega)⟩⟩⟩
    refine loop 4 3 (by omega) (by omega) (by omega) ?_ ?_
    · intro hv
      rw [if_pos ⟨by omega, by omega, hs, by omega, by omega, by omega, hv⟩] at hk
      exact hk
    · intro hv
      refine no (fun z => ?_)
      rw [z.2.2.2.2.2.2] at hv
      cases hv
/-! ===== GapTellings$TextReader.tellPicture ===== -/
abbrev rmX5_tellPicture : Room := { frames := 2, cells := 0, slots := 0, locals := 43 }
abbrev argX5_tellPicture (a : Int) : List PV := [.inr (2, 0), .inr (5, a)]
abbrev CtX5_tellPicture (sp : Int → Mem → Kont → Prop) : Prop := Ct yX5_tellPicture cX5_tellPicture 4 (some .boolean) rmX5_tellPicture domC argX5_tellPicture (fun a => sp a)
theorem dX5_tellPicture_0 : decode cX5_tellPicture 0 = .ok (.aload_n 1, 1) := by decide +kernel
theorem dX5_tellPicture_1 : decode cX5_tellPicture 1 = .ok (.getfield 77, 3) := by decide +kernel
theorem dX5_tellPicture_4 : decode cX5_tellPicture 4 = .ok (.bipush 7, 2) := by decide +kernel
theorem dX5_tellPicture_6 : decode cX5_tellPicture 6 = .ok (.if_icmp .ge 11, 3) := by decide +kernel
theorem dX5_tellPicture_9 : decode cX5_tellPicture 9 = .ok (.aload_n 0, 1) := by decide +kernel
theorem dX5_tellPicture_10 : decode cX5_tellPicture 10 = .ok (.aload_n 1, 1) := by decide +kernel
theorem dX5_tellPicture_11 : decode cX5_tellPicture 11 = .ok (.invokevirtual 80, 3) := by decide +kernel
theorem dX5_tellPicture_14 : decode cX5_tellPicture 14 = .ok (.ifCond .ne 5, 3) := by decide +kernel
theorem dX5_tellPicture_17 : decode cX5_tellPicture 17 = .ok (.iconst 0, 1) := by decide +kernel
theorem dX5_tellPicture_18 : decode cX5_tellPicture 18 = .ok (.ireturn, 1) := by decide +kernel
theorem dX5_tellPicture_19 : decode cX5_tellPicture 19 = .ok (.aload_n 1, 1) := by decide +kernel
theorem dX5_tellPicture_20 : decode cX5_tellPicture 20 = .ok (.getfield 83, 3) := by decide +kernel
theorem dX5_tellPicture_23 : decode cX5_tellPicture 23 = .ok (.aload_n 1, 1) := by decide +kernel
theorem dX5_tellPicture_24 : decode cX5_tellPicture 24 = .ok (.getfield 77, 3) := by decide +kernel
theorem dX5_tellPicture_27 : decode cX5_tellPicture 27 = .ok (.aaload, 1) := by decide +kernel
theorem dX5_tellPicture_28 : decode cX5_tellPicture 28 = .ok (.astore_n 2, 1) := by decide +kernel
theorem dX5_tellPicture_29 : decode cX5_tellPicture 29 = .ok (.aload_n 2, 1) := by decide +kernel
theorem dX5_tellPicture_30 : decode cX5_tellPicture 30 = .ok (.aload_n 0, 1) := by decide +kernel
theorem dX5_tellPicture_31 : decode cX5_tellPicture 31 = .ok (.getfield 9, 3) := by decide +kernel
theorem dX5_tellPicture_34 : decode cX5_tellPicture 34 = .ok (.iconst 0, 1) := by decide +kernel
theorem dX5_tellPicture_35 : decode cX5_tellPicture 35 = .ok (.iaload, 1) := by decide +kernel
theorem dX5_tellPicture_36 : decode cX5_tellPicture 36 = .ok (.aload_n 0, 1) := by decide +kernel
theorem dX5_tellPicture_37 : decode cX5_tellPicture 37 = .ok (.getfield 9, 3) := by decide +kernel
theorem dX5_tellPicture_40 : decode cX5_tellPicture 40 = .ok (.iconst 1, 1) := by decide +kernel
theorem dX5_tellPicture_41 : decode cX5_tellPicture 41 = .ok (.iaload, 1) := by decide +kernel
theorem dX5_tellPicture_42 : decode cX5_tellPicture 42 = .ok (.aload_n 0, 1) := by decide +kernel
theorem dX5_tellPicture_43 : decode cX5_tellPicture 43 = .ok (.getfield 9, 3) := by decide +kernel
theorem dX5_tellPicture_46 : decode cX5_tellPicture 46 = .ok (.iconst 2, 1) := by decide +kernel
theorem dX5_tellPicture_47 : decode cX5_tellPicture 47 = .ok (.iaload, 1) := by decide +kernel
theorem dX5_tellPicture_48 : decode cX5_tellPicture 48 = .ok (.invokevirtual 87, 3) := by decide +kernel
theorem dX5_tellPicture_51 : decode cX5_tellPicture 51 = .ok (.iconst 3, 1) := by decide +kernel
theorem dX5_tellPicture_52 : decode cX5_tellPicture 52 = .ok (.istore_n 3, 1) := by decide +kernel
theorem dX5_tellPicture_53 : decode cX5_tellPicture 53 = .ok (.iload_n 3, 1) := by decide +kernel
theorem dX5_tellPicture_54 : decode cX5_tellPicture 54 = .ok (.iconst 1, 1) := by decide +kernel
theorem dX5_tellPicture_55 : decode cX5_tellPicture 55 = .ok (.iadd, 1) := by decide +kernel
theorem dX5_tellPicture_56 : decode cX5_tellPicture 56 = .ok (.aload_n 0, 1) := by decide +kernel
theorem dX5_tellPicture_57 : decode cX5_tellPicture 57 = .ok (.getfield 39, 3) := by decide +kernel
theorem dX5_tellPicture_60 : decode cX5_tellPicture 60 = .ok (.if_icmp .ge 27, 3) := by decide +kernel
theorem dX5_tellPicture_63 : decode cX5_tellPicture 63 = .ok (.aload_n 2, 1) := by decide +kernel
theorem dX5_tellPicture_64 : decode cX5_tellPicture 64 = .ok (.aload_n 0, 1) := by decide +kernel
theorem dX5_tellPicture_65 : decode cX5_tellPicture 65 = .ok (.getfield 9, 3) := by decide +kernel
theorem dX5_tellPicture_68 : decode cX5_tellPicture 68 = .ok (.iload_n 3, 1) := by decide +kernel
theorem dX5_tellPicture_69 : decode cX5_tellPicture 69 = .ok (.iaload, 1) := by decide +kernel
theorem dX5_tellPicture_70 : decode cX5_tellPicture 70 = .ok (.aload_n 0, 1) := by decide +kernel
theorem dX5_tellPicture_71 : decode cX5_tellPicture 71 = .ok (.getfield 9, 3) := by decide +kernel
theorem dX5_tellPicture_74 : decode cX5_tellPicture 74 = .ok (.iload_n 3, 1) := by decide +kernel
theorem dX5_tellPicture_75 : decode cX5_tellPicture 75 = .ok (.iconst 1, 1) := by decide +kernel
theorem dX5_tellPicture_76 : decode cX5_tellPicture 76 = .ok (.iadd, 1) := by decide +kernel
theorem dX5_tellPicture_77 : decode cX5_tellPicture 77 = .ok (.iaload, 1) := by decide +kernel
theorem dX5_tellPicture_78 : decode cX5_tellPicture 78 = .ok (.invokevirtual 92, 3) := by decide +kernel
theorem dX5_tellPicture_81 : decode cX5_tellPicture 81 = .ok (.iinc 3 2, 3) := by decide +kernel
theorem dX5_tellPicture_84 : decode cX5_tellPicture 84 = .ok (.goto (-31), 3) := by decide +kernel
theorem dX5_tellPicture_87 : decode cX5_tellPicture 87 = .ok (.aload_n 1, 1) := by decide +kernel
theorem dX5_tellPicture_88 : decode cX5_tellPicture 88 = .ok (.dup, 1) := by decide +kernel
theorem dX5_tellPicture_89 : decode cX5_tellPicture 89 = .ok (.getfield 77, 3) := by decide +kernel
theorem dX5_tellPicture_92 : decode cX5_tellPicture 92 = .ok (.iconst 1, 1) := by decide +kernel
theorem dX5_tellPicture_93 : decode cX5_tellPicture 93 = .ok (.iadd, 1) := by decide +kernel
theorem dX5_tellPicture_94 : decode cX5_tellPicture 94 = .ok (.putfield 77, 3) := by decide +kernel
theorem dX5_tellPicture_97 : decode cX5_tellPicture 97 = .ok (.iconst 1, 1) := by decide +kernel
theorem dX5_tellPicture_98 : decode cX5_tellPicture 98 = .ok (.ireturn, 1) := by decide +kernel
theorem ivX5_80 : IV RX5 80 yX5_isPicture cX5_isPicture 3 (some .boolean) 1 := ⟨(tb_mem (t_in2 (List.mem_of_getElem? (i := 170) (by decide +kernel))) (by decide +kernel)), (tb_mem (t_in2 (List.mem_of_getElem? (i := 171) (by decide +kernel))) (by decide +kernel)), (tb_mem (t_in2 (List.mem_of_getElem? (i := 172) (by decide +kernel))) (by decide +kernel)), (tb_mem (t_in1 (List.mem_of_getElem? (i := 2) (by decide +kernel))) (by decide +kernel)), (tb_mem (t_in2 (List.mem_of_getElem? (i := 173) (by decide +kernel))) (by decide +kernel)), ⟨by decide +kernel, by decide +kernel, by decide +kernel⟩⟩
theorem ivX5_87 : IV RX5 87 yX3_start cX3_start 4 none 3 := ⟨(tb_mem (t_in2 (List.mem_of_getElem? (i := 178) (by decide +kernel))) (by decide +kernel)), (tb_mem (t_in2 (List.mem_of_getElem? (i := 179) (by decide +kernel))) (by decide +kernel)), (tb_mem (t_in2 (List.mem_of_getElem? (i := 180) (by decide +kernel))) (by decide +kernel)), (tb_mem (t_in1 (List.mem_of_getElem? (i := 4) (by decide +kernel))) (by decide +kernel)), (tb_mem (t_in2 (List.mem_of_getElem? (i := 181) (by decide +kernel))) (by decide +kernel)), ⟨by decide +kernel, by decide +kernel, by decide +kernel⟩⟩
theorem plX5_77 : PL RX5 77 1 7 .int := ⟨_, _, _, rfl, by decide, uwX1, Or.inr ⟨"GapTellings", (nw_mem (t_in1 (List.mem_of_getElem? (i := 136) (by decide +kernel))) (by decide +kernel))⟩, rfl, by decide +kernel, tyX1, tyX1_ok, nmX1⟩
theorem ivX5_92 : IV RX5 92 yX3_addVersion cX3_addVersion 3 none 2 := ⟨(tb_mem (t_in2 (List.mem_of_getElem? (i := 182) (by decide +kernel))) (by decide +kernel)), (tb_mem (t_in2 (List.mem_of_getElem? (i := 183) (by decide +kernel))) (by decide +kernel)), (tb_mem (t_in2 (List.mem_of_getElem? (i := 184) (by decide +kernel))) (by decide +kernel)), (tb_mem (t_in1 (List.mem_of_getElem? (i := 4) (by decide +kernel))) (by decide +kernel)), (tb_mem (t_in2 (List.mem_of_getElem? (i := 185) (by decide +kernel))) (by decide +kernel)), ⟨by decide +kernel, by decide +kernel, by decide +kernel⟩⟩
set_option maxHeartbeats 4000000 in
set_option maxRecDepth 20000 in
theorem sgX5_tellPicture_0 {κ : Kx} {K : Kont} {M : Mem} (C : Cx κ RX5 cX5_tellPicture 4 (some .boolean) rmX5_tellPicture domC) (i1 : Int)
    (h :
    ((7 ≤ (M 5 i1 7) →
      K (some 0) M) ∧
     (¬ (7 ≤ (M 5 i1 7)) →
      spX5_isPicture i1 M (rI (fun r11 M11 =>
      ((r11 ≠ 0 →
        (0 ≤ (M11 5 i1 7) ∧ (M11 5 i1 7) < 7) ∧
        spX3_start (7 * i1 + (M11 5 i1 7)) (M11 3 0 0) (M11 3 0 1) (M11 3 0 2) M11 (rV (fun M48 =>
        V κ 4 M48 53 [some (.inr (2, 0)), some (.inr (5, i1)), some (.inr (11, 7 * i1 + (M11 5 i1 7))), some (.inl 3)] [] K))) ∧
       (¬ (r11 ≠ 0) →
        K (some 0) M11))))))) : V κ 4 M 0 [some (.inr (2, 0)), some (.inr (5, i1)), none, none] [] K := by
  refine v_aload_n C dX5_tellPicture_0 rfl ?_
  refine v_get C dX5_tellPicture_1 flX5_77 rfl (by decide) (by decide) (w := .inl (M 5 i1 7)) rfl ?_
  refine v_bipush C dX5_tellPicture_4 (by decide) (by decide) ?_
  refine v_icmp C dX5_tellPicture_6 (tgt := 17) (by decide) (P := 7 ≤ (M 5 i1 7)) rfl (fun c6 => ?_) (fun c6 => ?_)
  · replace h := h.1 c6
    refine v_iconst C dX5_tellPicture_17 (by decide) ?_
    exact v_zret C dX5_tellPicture_18 (by decide) h
  · replace h := h.2 c6
    refine v_aload_n C dX5_tellPicture_9 rfl ?_
    refine v_aload_n C dX5_tellPicture_10 rfl ?_
    refine v_invV C ctX5_isPicture dX5_tellPicture_11 ivX5_80 ⟨by decide, by decide, rfl, rfl⟩ (i1 : Int) (As := [.inr (5, i1)]) rfl rfl rfl (by decide) rfl (st := []) rfl (Nat.le_of_ble_eq_true rfl) h (fun o M11 oM11 io11 h => ?_)
    obtain ⟨r11, rfl, h⟩ := rI_out h
    refine v_push ?_
    refine v_if C dX5_tellPicture_14 (tgt := 19) (by decide) (P := r11 ≠ 0) rfl (fun c14 => ?_) (fun c14 => ?_)
    · replace h := h.1 c14
      refine v_aload_n C dX5_tellPicture_19 rfl ?_
      refine v_get C dX5_tellPicture_20 flX5_83 rfl (by decide) (by decide) (w := .inr (10, i1)) rfl ?_
      refine v_aload_n C dX5_tellPicture_23 rfl ?_
      refine v_get C dX5_tellPicture_24 flX5_77 rfl (by decide) (by decide) (w := .inl (M11 5 i1 7)) rfl ?_
      refine v_aald C dX5_tellPicture_27 h.1.1 h.1.2 ?_
      replace h := h.2
      refine v_astore_n C dX5_tellPicture_28 (by decide) (Nat.le_of_ble_eq_true rfl) (lv' := [some (.inr (2, 0)), some (.inr (5, i1)), some (.inr (11, 7 * i1 + (M11 5 i1 7))), none]) rfl ?_
      refine v_aload_n C dX5_tellPicture_29 rfl ?_
      refine v_aload_n C dX5_tellPicture_30 rfl ?_
      refine v_get C dX5_tellPicture_31 flX5_9 rfl (by decide) (by decide) (w := .inr (3, 0)) rfl ?_
      refine v_iconst C dX5_tellPicture_34 (by decide) ?_
      refine v_iald C dX5_tellPicture_35 rfl (by decide) (by decide) ?_
      refine v_aload_n C dX5_tellPicture_36 rfl ?_
      refine v_get C dX5_tellPicture_37 flX5_9 rfl (by decide) (by decide) (w := .inr (3, 0)) rfl ?_
      refine v_iconst C dX5_tellPicture_40 (by decide) ?_
      refine v_iald C dX5_tellPicture_41 rfl (by decide) (by decide) ?_
      refine v_aload_n C dX5_tellPicture_42 rfl ?_
      refine v_get C dX5_tellPicture_43 flX5_9 rfl (by decide) (by decide) (w := .inr (3, 0)) rfl ?_
      refine v_iconst C dX5_tellPicture_46 (by decide) ?_
      refine v_iald C dX5_tellPicture_47 rfl (by decide) (by decide) ?_
      refine v_invV C ctX3_start dX5_tellPicture_48 ivX5_87 ⟨by decide, by decide, rfl, rfl⟩ ((7 * i1 + (M11 5 i1 7), M11 3 0 0, M11 3 0 1, M11 3 0 2) : Int × Int × Int × Int) (As := [.inl (M11 3 0 0), .inl (M11 3 0 1), .inl (M11 3 0 2)]) rfl rfl rfl (by decide) rfl (st := []) rfl (Nat.le_of_ble_eq_true rfl) h (fun o M48 oM48 io48 h => ?_)
      obtain ⟨rfl, h⟩ := rV_out h
      refine v_push0 ?_
      refine v_iconst C dX5_tellPicture_51 (by decide) ?_
      refine v_istore_n C dX5_tellPicture_52 (by decide) (Nat.le_of_ble_eq_true rfl) (lv' := [some (.inr (2, 0)), some (.inr (5, i1)), some (.inr (11, 7 * i1 + (M11 5 i1 7))), some (.inl 3)]) rfl ?_
      refine v_weak [some (.inr (2, 0)), some (.inr (5, i1)), some (.inr (11, 7 * i1 + (M11 5 i1 7))), some (.inl 3)] ⟨rfl, rfl, rfl, rfl, trivial⟩ ?_
      exact h
    · replace h := h.2 c14
      refine v_iconst C dX5_tellPicture_17 (by decide) ?_
      exact v_zret C dX5_tellPicture_18 (by decide) h
set_option maxHeartbeats 4000000 in
set_option maxRecDepth 20000 in
theorem sgX5_tellPicture_53 {κ : Kx} {K : Kont} {M : Mem} (C : Cx κ RX5 cX5_tellPicture 4 (some .boolean) rmX5_tellPicture domC) (i1 : Int) (i2 : Int) (x3 : Int)
    (h :
    inR (x3 + 1) ∧
    (((M 2 0 2) ≤ (x3 + 1) →
      inR ((M 5 i1 7) + 1) ∧
      ∀ M94 : Mem, M94 = up3 M 5 i1 7 ((M 5 i1 7) + 1) →
      K (some 1) M94) ∧
     (¬ ((M 2 0 2) ≤ (x3 + 1)) →
      (0 ≤ x3 ∧ x3 < 9) ∧
      inR (x3 + 1) ∧
      (0 ≤ (x3 + 1) ∧ (x3 + 1) < 9) ∧
      spX3_addVersion i2 (M 3 0 x3) (M 3 0 (x3 + 1)) M (rV (fun M78 =>
      inR (x3 + 2) ∧
      V κ 4 M78 53 [some (.inr (2, 0)), some (.inr (5, i1)), some (.inr (11, i2)), some (.inl (x3 + 2))] [] K))))) : V κ 4 M 53 [some (.inr (2, 0)), some (.inr (5, i1)), some (.inr (11, i2)), some (.inl x3)] [] K := by
  refine v_iload_n C dX5_tellPicture_53 rfl ?_
  refine v_iconst C dX5_tellPicture_54 (by decide) ?_
  refine v_iadd C dX5_tellPicture_55 h.1 ?_
  replace h := h.2
  refine v_aload_n C dX5_tellPicture_56 rfl ?_
  refine v_get C dX5_tellPicture_57 flX5_39 rfl (by decide) (by decide) (w := .inl (M 2 0 2)) rfl ?_
  refine v_icmp C dX5_tellPicture_60 (tgt := 87) (by decide) (P := (M 2 0 2) ≤ (x3 + 1)) rfl (fun c60 => ?_) (fun c60 => ?_)
  · replace h := h.1 c60
    refine v_aload_n C dX5_tellPicture_87 rfl ?_
    refine v_dup C dX5_tellPicture_88 ?_
    refine v_get C dX5_tellPicture_89 flX5_77 rfl (by decide) (by decide) (w := .inl (M 5 i1 7)) rfl ?_
    refine v_iconst C dX5_tellPicture_92 (by decide) ?_
    refine v_iadd C dX5_tellPicture_93 h.1 ?_
    replace h := h.2
    refine v_put C dX5_tellPicture_94 plX5_77 rfl (by decide) (by decide) rfl rfl rfl ?_
    refine v_nmM (fun M94 eM94 => ?_)
    replace h := h M94 eM94
    refine v_iconst C dX5_tellPicture_97 (by decide) ?_
    exact v_zret C dX5_tellPicture_98 (by decide) h
  · replace h := h.2 c60
    refine v_aload_n C dX5_tellPicture_63 rfl ?_
    refine v_aload_n C dX5_tellPicture_64 rfl ?_
    refine v_get C dX5_tellPicture_65 flX5_9 rfl (by decide) (by decide) (w := .inr (3, 0)) rfl ?_
    refine v_iload_n C dX5_tellPicture_68 rfl ?_
    refine v_iald C dX5_tellPicture_69 rfl h.1.1 h.1.2 ?_
    replace h := h.2
    refine v_aload_n C dX5_tellPicture_70 rfl ?_
    refine v_get C dX5_tellPicture_71 flX5_9 rfl (by decide) (by decide) (w := .inr (3, 0)) rfl ?_
    refine v_iload_n C dX5_tellPicture_74 rfl ?_
    refine v_iconst C dX5_tellPicture_75 (by decide) ?_
    refine v_iadd C dX5_tellPicture_76 h.1 ?_
    replace h := h.2
    refine v_iald C dX5_tellPicture_77 rfl h.1.1 h.1.2 ?_
    replace h := h.2
    refine v_invV C ctX3_addVersion dX5_tellPicture_78 ivX5_92 ⟨by decide, by decide, rfl, rfl⟩ ((i2, M 3 0 x3, M 3 0 (x3 + 1)) : Int × Int × Int) (As := [.inl (M 3 0 x3), .inl (M 3 0 (x3 + 1))]) rfl rfl rfl (by decide) rfl (st := []) rfl (Nat.le_of_ble_eq_true rfl) h (fun o M78 oM78 io78 h => ?_)
    obtain ⟨rfl, h⟩ := rV_out h
    refine v_push0 ?_
    refine v_iinc C dX5_tellPicture_81 (by decide) rfl h.1 (lv' := [some (.inr (2, 0)), some (.inr (5, i1)), some (.inr (11, i2)), some (.inl (x3 + 2))]) rfl ?_
    replace h := h.2
    refine v_goto C dX5_tellPicture_84 (tgt := 53) (by decide) ?_
    refine v_weak [some (.inr (2, 0)), some (.inr (5, i1)), some (.inr (11, i2)), some (.inl (x3 + 2))] ⟨rfl, rfl, rfl, rfl, trivial⟩ ?_
    exact h
def avs (F : Film) (p : Int) (l : List (Int × Int)) : Nat → Nat → Film
  | 0, _ => F
  | n + 1, i => if i + 1 < l.length then avs (sFV F p (aN l i) (aN l (i + 1))) p l n (i + 2) else F
def itP (F : Film) (l : List (Int × Int)) : Option Film := if F 3 0 0 < 7 ∧ picOk (F 0 0 0) l then some (sFC (avs (sFP F (F 3 0 0) (aN l 0) (aN l 1) (aN l 2)) (F 3 0 0) l 4 3) (F 3 0 0 + 1)) else none
abbrev spX5_tellPicture (f : Int) (M : Mem) (K : Kont) : Prop := (0 ≤ M 5 f 7) ∧ ∃ l, RdK M l ∧ resK M f K (itP (cFilm M f) l)
theorem ctX5_tellPicture : CtX5_tellPicture spX5_tellPicture := by
  refine ct_of (by decide) dmC (fun _ => Nat.le_of_ble_eq_true rfl) ?_
  intro κ f M K C oM h
  obtain ⟨hn, l, hr, hk⟩ := h
  have hlen := hr.2.1
  have h2 := hr.1
  have eT : cFilm M f 0 0 0 = M 5 f 0 := rfl
  have eP : cFilm M f 3 0 0 = M 5 f 7 := rfl
  unfold itP at hk
  rw [eT, eP] at hk
  have no : ¬ (M 5 f 7 < 7 ∧ picOk (M 5 f 0) l) → K (some 0) M := fun z => by rw [if_neg z] at hk; exact hk
  refine sgX5_tellPicture_0 C f ⟨fun c => no (fun z => by have := z.1; omega), fun c => ⟨l, hr, fun c2 => ?_, fun c2 => no (fun z => ?_)⟩⟩
  · have hok : picOk (M 5 f 0) l := by
      by_cases z : picOk (M 5 f 0) l
      · exact z
      · rw [if_neg z] at c2
        exact absurd rfl c2
    rw [if_pos ⟨by omega, hok⟩] at hk
    have e0 : M 3 0 0 = aN l 0 := (hr.at (k := 0) (by omega)).1.1
    have e1 : M 3 0 1 = aN l 1 := (hr.at (k := 1) (by have := hok.1; omega)).1.1
    have e2 : M 3 0 2 = aN l 2 := (hr.at (k := 2) (by have := hok.1; omega)).1.1
    rw [e0, e1, e2]
    refine ⟨by omega, fun N eN => ?_⟩
    have loop : ∀ (n i : Nat) (N : Mem), i % 2 = 1 → i + 2 * n = 11 → 3 ≤ i → AgM M N f → N 5 f 7 = M 5 f 7 → (0 ≤ N 11 (7 * f + M 5 f 7) 4 ∧ 2 * N 11 (7 * f + M 5 f 7) 4 + 3 = i) → avs (cFilm N f) (M 5 f 7) l n i = avs (sFP (cFilm M f) (M 5 f 7) (aN l 0) (aN l 1) (aN l 2)) (M 5 f 7) l 4 3 →
        V κ 4 N 53 [some (.inr (2, 0)), some (.inr (5, f)), some (.inr (11, 7 * f + M 5 f 7)), some (.inl (i : Int))] [] K := by
      have fin : ∀ N : Mem, AgM M N f → N 5 f 7 = M 5 f 7 → cFilm N f = avs (sFP (cFilm M f) (M 5 f 7) (aN l 0) (aN l 1) (aN l 2)) (M 5 f 7) l 4 3 → inR (N 5 f 7 + 1) ∧ ∀ M94 : Mem, M94 = up3 N 5 f 7 (N 5 f 7 + 1) → K (some 1) M94 := by
        intro N hA h7 hc
        refine ⟨by rw [h7]; omega, fun N2 e2 => hk N2 (by rw [e2]; exact hA.up1 (by decide) _ _) ?_⟩
        rw [← hc, e2, h7]
        funext t a b
        unfold cFilm sFC
        split <;> simp [up3]
        simp_all
      intro n
      induction n with
      | zero =>
        intro i N hi hin h3 hA h7 hv hav
        have hr2 := hA.rd hr
        refine sgX5_tellPicture_53 C f _ i ⟨by omega, fun c => fin N hA h7 hav, fun c => absurd (by rw [hr2.1]; omega) c⟩
      | succ n ih =>
        intro i N hi hin h3 hA h7 hv hav
        have hr2 := hA.rd hr
        unfold avs at hav
        refine sgX5_tellPicture_53 C f _ i ⟨by omega, fun c => ?_, fun c => ?_⟩
        · rw [hr2.1] at c
          rw [if_neg (by omega)] at hav
          exact fin N hA h7 hav
        · rw [hr2.1] at c
          have hc : i + 1 < l.length := by omega
          rw [if_pos hc] at hav
          have ai : N 3 0 (i : Int) = aN l i := (hr2.at (k := i) (by omega)).1.1
          have aj : N 3 0 ((i : Int) + 1) = aN l (i + 1) := (hr2.at (k := i + 1) hc).1.1
          rw [ai, aj]
          refine ⟨by omega, by omega, by omega, ⟨hv.1, by omega⟩, fun N2 e2 => ?_⟩
          have hA2 : AgM M N2 f := by
            rw [e2]
            exact ((hA.up2 (by decide) (by omega) _ _).up2 (by decide) (by omega) _ _).up2 (by decide) (by omega) _ _
          have v2 : N2 11 (7 * f + M 5 f 7) 4 = N 11 (7 * f + M 5 f 7) 4 + 1 := by rw [e2, up3_s]
          have s2 : N2 5 f 7 = M 5 f 7 := by rw [e2, up3_r _ _ _ _ _ (by decide), up3_r _ _ _ _ _ (by decide), up3_r _ _ _ _ _ (by decide), h7]
          have := ih (i + 2) N2 (by omega) (by omega) (by omega) hA2 s2 (by rw [v2]; omega) ?_
          · exact ⟨by omega, this⟩
          · rw [e2, cF_ver]
            exact hav
    have hA1 : AgM M N f := by
      rw [eN]
      exact ((((AgM.rf.up2 (by decide) (by omega) _ _).up2 (by decide) (by omega) _ _).up2 (by decide) (by omega) _ _).up2 (by decide) (by omega) _ _).up2 (by decide) (by omega) _ _
    refine loop 4 3 N (by omega) (by omega) (by omega) hA1 ?_ ?_ ?_
    · rw [eN, up3_r _ _ _ _ _ (by decide), up3_r _ _ _ _ _ (by decide), up3_r _ _ _ _ _ (by decide), up3_r _ _ _ _ _ (by decide), up3_r _ _ _ _ _ (by decide)]
    · rw [eN, up3_s]
      omega
    · rw [eN, cF_pic]
  · rw [if_pos z.2] at c2
    exact c2 (by decide)
end
section
/-! ===== TextReader.tellItem (open: its walk through String.indexOf is wanting), read ===== -/
abbrev rmX5_tellItem : Room := { frames := 7, cells := 0, slots := 0, locals := 159 }
abbrev argX5_tellItem (a : Int × Int) : List PV := [.inr (2, 0), .inl a.1, .inr (5, a.2)]
abbrev CtX5_tellItem (sp : Int → Int → Mem → Kont → Prop) : Prop := Ct yX5_tellItem cX5_tellItem 4 (some .boolean) rmX5_tellItem domC argX5_tellItem (fun a => sp a.1 a.2)
def knd (x : Int) : Int := if x = 115 then 0 else if x = 103 then 1 else 2
def itS (F : Film) (x : Int) (l : List (Int × Int)) : Option Film :=
  if x = 102 then itF F l else if F 0 0 0 = 0 then none else if x = 115 ∨ x = 103 ∨ x = 110 then itO F (knd x) l else if x = 112 then itP F l else if x = 99 then itN F l else if x = 98 then itB F l else none
abbrev spX5_tellItem (x f : Int) (M : Mem) (K : Kont) : Prop := ((0 ≤ x ∧ x < 65536) ∧ WFf (cFilm M f)) ∧ ∃ l, RdK M l ∧ resK M f K (itS (cFilm M f) x l)
theorem ctX5_tellItem : CtX5_tellItem spX5_tellItem := by
  sorry
/-- all the films that the readings go through are well made -/
theorem vok_at {l : List (Int × Int)} : ∀ (n i : Nat), vok l n i = true → ∀ j, j < n → i + 2 * j + 1 < l.length → 1 ≤ aN l (i + 2 * j) ∧ aN l (i + 2 * j) ≤ 30 ∧ 1 ≤ aN l (i + 2 * j + 1) ∧ aN l (i + 2 * j + 1) ≤ 99 := by
  intro n
  induction n with
  | zero => intro i _ j hj; omega
  | succ n ih =>
    intro i h j hj hl
    unfold vok at h
    rw [if_pos (by omega), Bool.and_eq_true, decide_eq_true_eq] at h
    cases j with
    | zero => simpa using h.1
    | succ j =>
      have := ih (i + 2) h.2 j (by omega) (by omega)
      have e : i + 2 * (j + 1) = i + 2 + 2 * j := by omega
      rw [e]
      exact this
/-- the versions that are added -/
theorem avs_spec {p : Int} {l : List (Int × Int)} : ∀ (n i : Nat) (F : Film), (∀ t a b, ¬ (t = 11 ∧ a = p) → ¬ ((t = 13 ∨ t = 14) ∧ a = p) → avs F p l n i t a b = F t a b) := by
  intro n
  induction n with
  | zero => intro i F t a b _ _; rfl
  | succ n ih =>
    intro i F t a b h1 h2
    unfold avs
    split
    · rw [ih (i + 2) _ t a b h1 h2]
      unfold sFV
      rw [if_neg (fun z => h2 ⟨Or.inl z.1, z.2.1⟩), if_neg (fun z => h2 ⟨Or.inr z.1, z.2.1⟩), if_neg h1]
    · rfl
theorem avs_ver {p : Int} {l : List (Int × Int)} : ∀ (n i : Nat) (F : Film), i + 2 * n = 11 → i ≤ l.length → (l.length - i) % 2 = 0 → l.length ≤ 9 → 0 ≤ F 11 p 0 →
    avs F p l n i 11 p 0 = F 11 p 0 + ((l.length - i) / 2 : Nat) ∧ (∀ v, v < F 11 p 0 → avs F p l n i 13 p v = F 13 p v ∧ avs F p l n i 14 p v = F 14 p v) ∧
    ∀ j : Nat, i + 2 * j + 1 < l.length → avs F p l n i 13 p (F 11 p 0 + j) = aN l (i + 2 * j) ∧ avs F p l n i 14 p (F 11 p 0 + j) = aN l (i + 2 * j + 1) := by
  intro n
  induction n with
  | zero => intro i F hn hi _ hl _; omega
  | succ n ih =>
    intro i F hn hi hp hl h0
    unfold avs
    by_cases c : i + 1 < l.length
    · rw [if_pos c]
      have f11 : sFV F p (aN l i) (aN l (i + 1)) 11 p 0 = F 11 p 0 + 1 := by unfold sFV; simp
      have ihh := ih (i + 2) (sFV F p (aN l i) (aN l (i + 1))) (by omega) (by omega) (by omega) hl (by rw [f11]; omega)
      rw [f11] at ihh
      obtain ⟨a1, a2, a3⟩ := ihh
      refine ⟨by rw [a1]; omega, fun v hv => ?_, fun j hj => ?_⟩
      · have := a2 v (by omega)
        rw [this.1, this.2]
        unfold sFV
        have hne : ¬ v = F 11 p 0 := by omega
        simp [hne]
      · cases j with
        | zero =>
          have := a2 (F 11 p 0) (by omega)
          have e : F 11 p 0 + ((0 : Nat) : Int) = F 11 p 0 := by omega
          rw [e, this.1, this.2]
          unfold sFV
          simp
        | succ j =>
          have := a3 j (by omega)
          have e : F 11 p 0 + ((j + 1 : Nat) : Int) = F 11 p 0 + 1 + j := by omega
          have e2 : i + 2 * (j + 1) = i + 2 + 2 * j := by omega
          rw [e, e2]
          exact this
    · rw [if_neg c]
      refine ⟨by have : (l.length - i) / 2 = 0 := by omega
                 rw [this]; simp, fun v _ => ⟨rfl, rfl⟩, fun j hj => by omega⟩
def lOk (l : List (Int × Int)) : Prop := (1 ≤ l.length ∧ l.length ≤ 9) ∧ ∀ q ∈ l, (0 ≤ q.1 ∧ q.1 ≤ 999) ∧ (1 ≤ q.2 ∧ q.2 ≤ 3)
theorem lOk.at {l : List (Int × Int)} (h : lOk l) (k : Nat) : 0 ≤ aN l k ∧ aN l k ≤ 999 := by
  unfold aN
  by_cases hk : k < l.length
  · have e : l.getD k (0, 0) = l[k] := by rw [List.getD_eq_getElem?_getD, List.getElem?_eq_getElem hk]; rfl
    rw [e]
    exact (h.2 _ (List.getElem_mem hk)).1
  · have e : l.getD k (0, 0) = (0, 0) := by rw [List.getD_eq_getElem?_getD, List.getElem?_eq_none (by omega)]; rfl
    rw [e]
    decide
theorem itS_wf {F F' : Film} (hf : WFf F) {x : Int} {l : List (Int × Int)} (hl : lOk l) (h : itS F x l = some F') : WFf F' := by
  obtain ⟨h1, h2, h3, h4, h5, h6, h7⟩ := hf
  have a0 := hl.at 0
  have a1 := hl.at 1
  have a2 := hl.at 2
  unfold itS at h
  by_cases x1 : x = 102
  · rw [if_pos x1] at h
    unfold itF at h
    by_cases c : F 0 0 0 = 0 ∧ l.length = 1 ∧ 1 ≤ aN l 0 ∧ aN l 0 ≤ 100
    · rw [if_pos c] at h
      cases h
      -- with no ticks there is no sound and no picture that is checked against them
      refine ⟨by unfold sFT; simp; omega, by unfold sFT; simpa using h2, by unfold sFT; simpa using h3, by unfold sFT; simpa using h4, fun w a b => by unfold sFT; simpa using h5 w a b, fun s a b => ?_, fun p a b => ?_⟩
      · have b' : s < F 2 0 0 := by simpa [sFT] using b
        have := h6 s a b'
        unfold WFs at this ⊢
        simp only [sFT] at *
        simp
        omega
      · have b' : p < F 3 0 0 := by simpa [sFT] using b
        have := h7 p a b'
        unfold WFp at this
        omega
    · rw [if_neg c] at h
      cases h
  · rw [if_neg x1] at h
    by_cases xt : F 0 0 0 = 0
    · rw [if_pos xt] at h
      cases h
    · rw [if_neg xt] at h
      by_cases x2 : x = 115 ∨ x = 103 ∨ x = 110
      · rw [if_pos x2] at h
        have hk : 0 ≤ knd x ∧ knd x ≤ 2 := by
          unfold knd
          split
          · omega
          · split <;> omega
        unfold itO at h
        by_cases c : l.length = 2 ∧ cN l 0 ≤ 2 ∧ aN l 0 < aN l 1 ∧ aN l 1 ≤ F 0 0 0 ∧ F 2 0 0 < 12
        · rw [if_pos c] at h
          cases h
          refine ⟨by unfold sFS; simpa using h1, by unfold sFS; simpa using h2, by unfold sFS; simp; omega, by unfold sFS; simpa using h4, fun w a b => by unfold sFS; simpa using h5 w a b, fun s a b => ?_, fun p a b => ?_⟩
          · have b' : s < F 2 0 0 + 1 := by simpa [sFS] using b
            unfold WFs sFS
            by_cases e : s = F 2 0 0
            · simp [e]
              omega
            · have := h6 s a (by omega)
              unfold WFs at this
              simp [e]
              omega
          · have b' : p < F 3 0 0 := by simpa [sFS] using b
            have := h7 p a b'
            unfold WFp at this ⊢
            simpa [sFS] using this
        · rw [if_neg c] at h
          cases h
      · rw [if_neg x2] at h
        by_cases x3 : x = 112
        · rw [if_pos x3] at h
          unfold itP at h
          by_cases c : F 3 0 0 < 7 ∧ picOk (F 0 0 0) l
          · rw [if_pos c] at h
            cases h
            obtain ⟨c1, c2, c3, c4, c5, c6, c7, c8⟩ := c
            have ll := hl.1
            have sp := avs_spec (p := F 3 0 0) (l := l) 4 3 (sFP F (F 3 0 0) (aN l 0) (aN l 1) (aN l 2))
            have f11 : sFP F (F 3 0 0) (aN l 0) (aN l 1) (aN l 2) 11 (F 3 0 0) 0 = 0 := by unfold sFP; simp
            have av := avs_ver (p := F 3 0 0) (l := l) 4 3 (sFP F (F 3 0 0) (aN l 0) (aN l 1) (aN l 2)) (by omega) (by omega) (by omega) (by omega) (by rw [f11]; omega)
            rw [f11] at av
            have g : ∀ t a b, t ≠ 3 → sFC (avs (sFP F (F 3 0 0) (aN l 0) (aN l 1) (aN l 2)) (F 3 0 0) l 4 3) (F 3 0 0 + 1) t a b = avs (sFP F (F 3 0 0) (aN l 0) (aN l 1) (aN l 2)) (F 3 0 0) l 4 3 t a b := by
              intro t a b ht
              unfold sFC
              rw [if_neg ht]
            have g3 : sFC (avs (sFP F (F 3 0 0) (aN l 0) (aN l 1) (aN l 2)) (F 3 0 0) l 4 3) (F 3 0 0 + 1) 3 0 0 = F 3 0 0 + 1 := by unfold sFC; simp
            have low : ∀ t a b, t < 8 → t ≠ 3 → sFC (avs (sFP F (F 3 0 0) (aN l 0) (aN l 1) (aN l 2)) (F 3 0 0) l 4 3) (F 3 0 0 + 1) t a b = F t a b := by
              intro t a b ht h3
              rw [g t a b h3, sp t a b (by omega) (by omega)]
              unfold sFP
              rw [if_neg (by omega), if_neg (by omega), if_neg (by omega), if_neg (by omega), if_neg (by omega)]
            have oth : ∀ t a b, t ≠ 3 → a ≠ F 3 0 0 → sFC (avs (sFP F (F 3 0 0) (aN l 0) (aN l 1) (aN l 2)) (F 3 0 0) l 4 3) (F 3 0 0 + 1) t a b = F t a b := by
              intro t a b h3 ha
              rw [g t a b h3, sp t a b (fun z => ha z.2) (fun z => ha z.2)]
              unfold sFP
              rw [if_neg (fun z => ha z.2), if_neg (fun z => ha z.2), if_neg (fun z => ha z.2), if_neg (fun z => ha z.2), if_neg (fun z => ha z.2)]
            refine ⟨by rw [low 0 _ _ (by decide) (by decide)]; exact h1, by rw [low 1 _ _ (by decide) (by decide)]; exact h2, by rw [low 2 _ _ (by decide) (by decide)]; exact h3, by rw [g3]; omega, fun w a b => by rw [low 4 _ _ (by decide) (by decide)]; exact h5 w a b, fun s a b => ?_, fun p a b => ?_⟩
            · rw [low 2 _ _ (by decide) (by decide)] at b
              have := h6 s a b
              unfold WFs at this ⊢
              rw [low 5 _ _ (by decide) (by decide), low 6 _ _ (by decide) (by decide), low 7 _ _ (by decide) (by decide), low 0 _ _ (by decide) (by decide)]
              exact this
            · rw [g3] at b
              unfold WFp
              rw [low 0 _ _ (by decide) (by decide)]
              by_cases e : p = F 3 0 0
              · subst e
                have q8 : sFC (avs (sFP F (F 3 0 0) (aN l 0) (aN l 1) (aN l 2)) (F 3 0 0) l 4 3) (F 3 0 0 + 1) 8 (F 3 0 0) 0 = aN l 0 := by rw [g 8 _ _ (by decide), sp 8 _ _ (by omega) (by omega)]; unfold sFP; simp
                have q9 : sFC (avs (sFP F (F 3 0 0) (aN l 0) (aN l 1) (aN l 2)) (F 3 0 0) l 4 3) (F 3 0 0 + 1) 9 (F 3 0 0) 0 = aN l 1 := by rw [g 9 _ _ (by decide), sp 9 _ _ (by omega) (by omega)]; unfold sFP; simp
                have q10 : sFC (avs (sFP F (F 3 0 0) (aN l 0) (aN l 1) (aN l 2)) (F 3 0 0) l 4 3) (F 3 0 0 + 1) 10 (F 3 0 0) 0 = aN l 2 := by rw [g 10 _ _ (by decide), sp 10 _ _ (by omega) (by omega)]; unfold sFP; simp
                have q12 : sFC (avs (sFP F (F 3 0 0) (aN l 0) (aN l 1) (aN l 2)) (F 3 0 0) l 4 3) (F 3 0 0 + 1) 12 (F 3 0 0) 0 = -4 := by rw [g 12 _ _ (by decide), sp 12 _ _ (by omega) (by omega)]; unfold sFP; simp
                have q11 : sFC (avs (sFP F (F 3 0 0) (aN l 0) (aN l 1) (aN l 2)) (F 3 0 0) l 4 3) (F 3 0 0 + 1) 11 (F 3 0 0) 0 = ((l.length - 3) / 2 : Nat) := by rw [g 11 _ _ (by decide), av.1]; omega
                rw [q8, q9, q10, q11, q12]
                refine ⟨by omega, by omega, by omega, by omega, Or.inl rfl, fun v v0 v1 => ?_⟩
                rw [g 13 _ _ (by decide), g 14 _ _ (by decide)]
                have q := av.2.2 v.toNat (by omega)
                have ev : (0 : Int) + (v.toNat : Int) = v := by omega
                rw [ev] at q
                rw [q.1, q.2]
                have := vok_at 4 3 c8 v.toNat (by omega) (by omega)
                omega
              · have := h7 p a (by omega)
                unfold WFp at this
                simp only [oth 8 p _ (by decide) e, oth 9 p _ (by decide) e, oth 10 p _ (by decide) e, oth 11 p _ (by decide) e, oth 12 p _ (by decide) e, oth 13 p _ (by decide) e, oth 14 p _ (by decide) e]
                exact this
          · rw [if_neg c] at h
            cases h
        · rw [if_neg x3] at h
          by_cases x4 : x = 99
          · rw [if_pos x4] at h
            unfold itN at h
            by_cases c : l.length = 2 ∧ shortB l = true ∧ aN l 1 < F 3 0 0 ∧ aN l 0 < aN l 1 ∧ F 12 (aN l 1) 0 = -4
            · rw [if_pos c] at h
              cases h
              refine ⟨by unfold sFN; simpa using h1, by unfold sFN; simpa using h2, by unfold sFN; simpa using h3, by unfold sFN; simpa using h4, fun w a b => by unfold sFN; simpa using h5 w a b, fun s a b => ?_, fun p a b => ?_⟩
              · have b' : s < F 2 0 0 := by simpa [sFN] using b
                have := h6 s a b'
                unfold WFs at this ⊢
                simpa [sFN] using this
              · have b' : p < F 3 0 0 := by simpa [sFN] using b
                have := h7 p a b'
                unfold WFp at this ⊢
                by_cases e : p = aN l 1
                · subst e
                  unfold sFN
                  exact ⟨by simpa using this.1, by simpa using this.2.1, by simpa using this.2.2.1, by simpa using this.2.2.2.1, Or.inr (by simp; omega), fun v v0 v1 => by simpa using this.2.2.2.2.2 v v0 (by simpa using v1)⟩
                · simpa [sFN, e] using this
            · rw [if_neg c] at h
              cases h
          · rw [if_neg x4] at h
            by_cases x5 : x = 98
            · rw [if_pos x5] at h
              unfold itB at h
              by_cases c : l.length = 1 ∧ shortB l = true ∧ aN l 0 ≤ 9
              · rw [if_pos c] at h
                cases h
                refine ⟨by unfold sFB; simpa using h1, by unfold sFB; simp; omega, by unfold sFB; simpa using h3, by unfold sFB; simpa using h4, fun w a b => by unfold sFB; simpa using h5 w a b, fun s a b => ?_, fun p a b => ?_⟩
                · have b' : s < F 2 0 0 := by simpa [sFB] using b
                  have := h6 s a b'
                  unfold WFs at this ⊢
                  simpa [sFB] using this
                · have b' : p < F 3 0 0 := by simpa [sFB] using b
                  have := h7 p a b'
                  unfold WFp at this ⊢
                  simpa [sFB] using this
              · rw [if_neg c] at h
                cases h
            · rw [if_neg x5] at h
              cases h
theorem sF0_wf (F : Film) : WFf (sF0 F) := by
  refine ⟨by simp [sF0], by simp [sF0], by simp [sF0], by simp [sF0], fun w a b => ?_, fun s a b => ?_, fun p a b => ?_⟩
  · have : w = 0 ∨ w = 1 ∨ w = 2 ∨ w = 3 := by omega
    rcases this with e | e | e | e <;> subst e <;> simp [sF0]
  · simp [sF0] at b
    omega
  · simp [sF0] at b
    omega
/-- a text read: the place of the first item that is not so, or -4; the film then -/
def psr (X : Int → Int) (L : Int) : Nat → Int → Film → Int × Film
  | 0, _, F => (-4, F)
  | n + 1, p, F => if L ≤ p then (-4, F) else match tks X L 9 (p + 1) with
    | none => (p, F)
    | some q => match itS F (X p) q.1 with
      | none => (p, F)
      | some F' => psr X L n q.2 F'
/-- nothing but the reader and a film has changed -/
def AgD (M M' : Mem) (f : Int) : Prop := ∀ r i j, ¬ ((2 ≤ r ∧ r ≤ 4) ∨ ((5 ≤ r ∧ r ≤ 9) ∧ i = f) ∨ ((11 ≤ r ∧ r ≤ 13) ∧ 7 * f ≤ i ∧ i < 7 * f + 7)) → M' r i j = M r i j
theorem AgD.rf {M : Mem} {f : Int} : AgD M M f := fun _ _ _ _ => rfl
theorem AgD.tr {M M' M2 : Mem} {f : Int} (h : AgD M M' f) (h2 : AgD M' M2 f) : AgD M M2 f := fun r i j hn => (h2 r i j hn).trans (h r i j hn)
theorem AgR.toD {M M' : Mem} (h : AgR M M') (f : Int) : AgD M M' f := fun r i j hn => by rw [h r (fun z => hn (Or.inl z))]
theorem AgM.toD {M M' : Mem} {f : Int} (h : AgM M M' f) : AgD M M' f := fun r i j hn => h r i j (fun z => hn (Or.inr z))
theorem AgD.reg {M M' : Mem} {f : Int} (h : AgD M M' f) {r : Nat} (hr : r < 2 ∨ 13 < r ∨ r = 10) : M' r = M r := by
  funext i j
  exact h r i j (by omega)
/-! ===== GapTellings$TextReader.read ===== -/
abbrev rmX5_read : Room := { frames := 8, cells := 0, slots := 0, locals := 182 }
abbrev argX5_read (a : Int × Int) : List PV := [.inr (2, 0), .inr (1, 0), .inl a.1, .inr (5, a.2)]
abbrev CtX5_read (sp : Int → Int → Mem → Kont → Prop) : Prop := Ct yX5_read cX5_read 6 (some .int) rmX5_read domC argX5_read (fun a => sp a.1 a.2)
theorem dX5_read_0 : decode cX5_read 0 = .ok (.aload_n 3, 1) := by decide +kernel
theorem dX5_read_1 : decode cX5_read 1 = .ok (.invokevirtual 18, 3) := by decide +kernel
theorem dX5_read_4 : decode cX5_read 4 = .ok (.aload_n 0, 1) := by decide +kernel
theorem dX5_read_5 : decode cX5_read 5 = .ok (.iconst 0, 1) := by decide +kernel
theorem dX5_read_6 : decode cX5_read 6 = .ok (.putfield 23, 3) := by decide +kernel
theorem dX5_read_9 : decode cX5_read 9 = .ok (.iconst 0, 1) := by decide +kernel
theorem dX5_read_10 : decode cX5_read 10 = .ok (.istore 4, 2) := by decide +kernel
theorem dX5_read_12 : decode cX5_read 12 = .ok (.iload 4, 2) := by decide +kernel
theorem dX5_read_14 : decode cX5_read 14 = .ok (.iload_n 2, 1) := by decide +kernel
theorem dX5_read_15 : decode cX5_read 15 = .ok (.if_icmp .ge 47, 3) := by decide +kernel
theorem dX5_read_18 : decode cX5_read 18 = .ok (.aload_n 0, 1) := by decide +kernel
theorem dX5_read_19 : decode cX5_read 19 = .ok (.getfield 23, 3) := by decide +kernel
theorem dX5_read_22 : decode cX5_read 22 = .ok (.iload_n 2, 1) := by decide +kernel
theorem dX5_read_23 : decode cX5_read 23 = .ok (.if_icmp .ge 39, 3) := by decide +kernel
theorem dX5_read_26 : decode cX5_read 26 = .ok (.aload_n 0, 1) := by decide +kernel
theorem dX5_read_27 : decode cX5_read 27 = .ok (.getfield 23, 3) := by decide +kernel
theorem dX5_read_30 : decode cX5_read 30 = .ok (.istore 5, 2) := by decide +kernel
theorem dX5_read_32 : decode cX5_read 32 = .ok (.aload_n 0, 1) := by decide +kernel
theorem dX5_read_33 : decode cX5_read 33 = .ok (.aload_n 1, 1) := by decide +kernel
theorem dX5_read_34 : decode cX5_read 34 = .ok (.iload_n 2, 1) := by decide +kernel
theorem dX5_read_35 : decode cX5_read 35 = .ok (.invokevirtual 27, 3) := by decide +kernel
theorem dX5_read_38 : decode cX5_read 38 = .ok (.ifCond .eq 15, 3) := by decide +kernel
theorem dX5_read_41 : decode cX5_read 41 = .ok (.aload_n 0, 1) := by decide +kernel
theorem dX5_read_42 : decode cX5_read 42 = .ok (.aload_n 1, 1) := by decide +kernel
theorem dX5_read_43 : decode cX5_read 43 = .ok (.iload 5, 2) := by decide +kernel
theorem dX5_read_45 : decode cX5_read 45 = .ok (.caload, 1) := by decide +kernel
theorem dX5_read_46 : decode cX5_read 46 = .ok (.aload_n 3, 1) := by decide +kernel
theorem dX5_read_47 : decode cX5_read 47 = .ok (.invokevirtual 31, 3) := by decide +kernel
theorem dX5_read_50 : decode cX5_read 50 = .ok (.ifCond .ne 6, 3) := by decide +kernel
theorem dX5_read_53 : decode cX5_read 53 = .ok (.iload 5, 2) := by decide +kernel
theorem dX5_read_55 : decode cX5_read 55 = .ok (.ireturn, 1) := by decide +kernel
theorem dX5_read_56 : decode cX5_read 56 = .ok (.iinc 4 1, 3) := by decide +kernel
theorem dX5_read_59 : decode cX5_read 59 = .ok (.goto (-47), 3) := by decide +kernel
theorem dX5_read_62 : decode cX5_read 62 = .ok (.bipush (-4), 2) := by decide +kernel
theorem dX5_read_64 : decode cX5_read 64 = .ok (.ireturn, 1) := by decide +kernel
theorem ivX5_18 : IV RX5 18 yX1_startAnew cX1_startAnew 1 none 0 := ⟨(tb_mem (t_in2 (List.mem_of_getElem? (i := 80) (by decide +kernel))) (by decide +kernel)), (tb_mem (t_in2 (List.mem_of_getElem? (i := 81) (by decide +kernel))) (by decide +kernel)), (tb_mem (t_in2 (List.mem_of_getElem? (i := 82) (by decide +kernel))) (by decide +kernel)), (tb_mem (t_in1 (List.mem_of_getElem? (i := 3) (by decide +kernel))) (by decide +kernel)), (tb_mem (t_in2 (List.mem_of_getElem? (i := 83) (by decide +kernel))) (by decide +kernel)), ⟨by decide +kernel, by decide +kernel, by decide +kernel⟩⟩
theorem ivX5_27 : IV RX5 27 yX5_readNumbers cX5_readNumbers 5 (some .boolean) 2 := ⟨(tb_mem (t_in2 (List.mem_of_getElem? (i := 84) (by decide +kernel))) (by decide +kernel)), (tb_mem (t_in2 (List.mem_of_getElem? (i := 85) (by decide +kernel))) (by decide +kernel)), (tb_mem (t_in2 (List.mem_of_getElem? (i := 86) (by decide +kernel))) (by decide +kernel)), (tb_mem (t_in1 (List.mem_of_getElem? (i := 2) (by decide +kernel))) (by decide +kernel)), (tb_mem (t_in2 (List.mem_of_getElem? (i := 87) (by decide +kernel))) (by decide +kernel)), ⟨by decide +kernel, by decide +kernel, by decide +kernel⟩⟩
theorem ivX5_31 : IV RX5 31 yX5_tellItem cX5_tellItem 4 (some .boolean) 2 := ⟨(tb_mem (t_in2 (List.mem_of_getElem? (i := 92) (by decide +kernel))) (by decide +kernel)), (tb_mem (t_in2 (List.mem_of_getElem? (i := 93) (by decide +kernel))) (by decide +kernel)), (tb_mem (t_in2 (List.mem_of_getElem? (i := 94) (by decide +kernel))) (by decide +kernel)), (tb_mem (t_in1 (List.mem_of_getElem? (i := 2) (by decide +kernel))) (by decide +kernel)), (tb_mem (t_in2 (List.mem_of_getElem? (i := 95) (by decide +kernel))) (by decide +kernel)), ⟨by decide +kernel, by decide +kernel, by decide +kernel⟩⟩
set_option maxHeartbeats 4000000 in
set_option maxRecDepth 20000 in
theorem sgX5_read_0 {κ : Kx} {K : Kont} {M : Mem} (C : Cx κ RX5 cX5_read 6 (some .int) rmX5_read domC) (x2 : Int) (i3 : Int)
    (h :
    spX1_startAnew i3 M (rV (fun M1 =>
    ∀ M6 : Mem, M6 = up3 M1 2 0 3 0 →
    V κ 6 M6 12 [some (.inr (2, 0)), some (.inr (1, 0)), some (.inl x2), some (.inr (5, i3)), some (.inl 0), none] [] K))) : V κ 6 M 0 [some (.inr (2, 0)), some (.inr (1, 0)), some (.inl x2), some (.inr (5, i3)), none, none] [] K := by
  refine v_aload_n C dX5_read_0 rfl ?_
  refine v_invV C ctX1_startAnew dX5_read_1 ivX5_18 ⟨by decide, by decide, rfl, rfl⟩ (i3 : Int) (As := []) rfl rfl rfl (by decide) rfl (st := []) rfl (Nat.le_of_ble_eq_true rfl) h (fun o M1 oM1 io1 h => ?_)
  obtain ⟨rfl, h⟩ := rV_out h
  refine v_push0 ?_
  refine v_aload_n C dX5_read_4 rfl ?_
  refine v_iconst C dX5_read_5 (by decide) ?_
  refine v_put C dX5_read_6 plX5_23 rfl (by decide) (by decide) rfl rfl rfl ?_
  refine v_nmM (fun M6 eM6 => ?_)
  replace h := h M6 eM6
  refine v_iconst C dX5_read_9 (by decide) ?_
  refine v_istore C dX5_read_10 (by decide) (Nat.le_of_ble_eq_true rfl) (lv' := [some (.inr (2, 0)), some (.inr (1, 0)), some (.inl x2), some (.inr (5, i3)), some (.inl 0), none]) rfl ?_
  refine v_weak [some (.inr (2, 0)), some (.inr (1, 0)), some (.inl x2), some (.inr (5, i3)), some (.inl 0), none] ⟨rfl, rfl, rfl, rfl, rfl, trivial⟩ ?_
  exact h
set_option maxHeartbeats 4000000 in
set_option maxRecDepth 20000 in
theorem sgX5_read_12 {κ : Kx} {K : Kont} {M : Mem} (C : Cx κ RX5 cX5_read 6 (some .int) rmX5_read domC) (x2 : Int) (i3 : Int) (x4 : Int)
    (h :
    ((x2 ≤ x4 →
      K (some (-4)) M) ∧
     (¬ (x2 ≤ x4) →
      ((x2 ≤ (M 2 0 3) →
        K (some (-4)) M) ∧
       (¬ (x2 ≤ (M 2 0 3)) →
        spX5_readNumbers x2 M (rI (fun r35 M35 =>
        ((r35 = 0 →
          K (some (M 2 0 3)) M35) ∧
         (¬ (r35 = 0) →
          (0 ≤ (M 2 0 3) ∧ (M 2 0 3) < 200) ∧
          spX5_tellItem (M35 1 0 (M 2 0 3)) i3 M35 (rI (fun r47 M47 =>
          ((r47 ≠ 0 →
            inR (x4 + 1) ∧
            V κ 6 M47 12 [some (.inr (2, 0)), some (.inr (1, 0)), some (.inl x2), some (.inr (5, i3)), some (.inl (x4 + 1)), none] [] K) ∧
           (¬ (r47 ≠ 0) →
            K (some (M 2 0 3)) M47))))))))))))) : V κ 6 M 12 [some (.inr (2, 0)), some (.inr (1, 0)), some (.inl x2), some (.inr (5, i3)), some (.inl x4), none] [] K := by
  refine v_iload C dX5_read_12 rfl ?_
  refine v_iload_n C dX5_read_14 rfl ?_
  refine v_icmp C dX5_read_15 (tgt := 62) (by decide) (P := x2 ≤ x4) rfl (fun c15 => ?_) (fun c15 => ?_)
  · replace h := h.1 c15
    refine v_bipush C dX5_read_62 (by decide) (by decide) ?_
    exact v_iret C dX5_read_64 h
  · replace h := h.2 c15
    refine v_aload_n C dX5_read_18 rfl ?_
    refine v_get C dX5_read_19 flX5_23 rfl (by decide) (by decide) (w := .inl (M 2 0 3)) rfl ?_
    refine v_iload_n C dX5_read_22 rfl ?_
    refine v_icmp C dX5_read_23 (tgt := 62) (by decide) (P := x2 ≤ (M 2 0 3)) rfl (fun c23 => ?_) (fun c23 => ?_)
    · replace h := h.1 c23
      refine v_bipush C dX5_read_62 (by decide) (by decide) ?_
      exact v_iret C dX5_read_64 h
    · replace h := h.2 c23
      refine v_aload_n C dX5_read_26 rfl ?_
      refine v_get C dX5_read_27 flX5_23 rfl (by decide) (by decide) (w := .inl (M 2 0 3)) rfl ?_
      refine v_istore C dX5_read_30 (by decide) (Nat.le_of_ble_eq_true rfl) (lv' := [some (.inr (2, 0)), some (.inr (1, 0)), some (.inl x2), some (.inr (5, i3)), some (.inl x4), some (.inl (M 2 0 3))]) rfl ?_
      refine v_aload_n C dX5_read_32 rfl ?_
      refine v_aload_n C dX5_read_33 rfl ?_
      refine v_iload_n C dX5_read_34 rfl ?_
      refine v_invV C ctX5_readNumbers dX5_read_35 ivX5_27 ⟨by decide, by decide, rfl, rfl⟩ (x2 : Int) (As := [.inr (1, 0), .inl x2]) rfl rfl rfl (by decide) rfl (st := []) rfl (Nat.le_of_ble_eq_true rfl) h (fun o M35 oM35 io35 h => ?_)
      obtain ⟨r35, rfl, h⟩ := rI_out h
      refine v_push ?_
      refine v_if C dX5_read_38 (tgt := 53) (by decide) (P := r35 = 0) rfl (fun c38 => ?_) (fun c38 => ?_)
      · replace h := h.1 c38
        refine v_iload C dX5_read_53 rfl ?_
        exact v_iret C dX5_read_55 h
      · replace h := h.2 c38
        refine v_aload_n C dX5_read_41 rfl ?_
        refine v_aload_n C dX5_read_42 rfl ?_
        refine v_iload C dX5_read_43 rfl ?_
        refine v_cald C dX5_read_45 rfl h.1.1 h.1.2 ?_
        replace h := h.2
        refine v_aload_n C dX5_read_46 rfl ?_
        refine v_invV C ctX5_tellItem dX5_read_47 ivX5_31 ⟨by decide, by decide, rfl, rfl⟩ ((M35 1 0 (M 2 0 3), i3) : Int × Int) (As := [.inl (M35 1 0 (M 2 0 3)), .inr (5, i3)]) rfl rfl rfl (by decide) rfl (st := []) rfl (Nat.le_of_ble_eq_true rfl) h (fun o M47 oM47 io47 h => ?_)
        obtain ⟨r47, rfl, h⟩ := rI_out h
        refine v_push ?_
        refine v_if C dX5_read_50 (tgt := 56) (by decide) (P := r47 ≠ 0) rfl (fun c50 => ?_) (fun c50 => ?_)
        · replace h := h.1 c50
          refine v_iinc C dX5_read_56 (by decide) rfl h.1 (lv' := [some (.inr (2, 0)), some (.inr (1, 0)), some (.inl x2), some (.inr (5, i3)), some (.inl (x4 + 1)), some (.inl (M 2 0 3))]) rfl ?_
          replace h := h.2
          refine v_goto C dX5_read_59 (tgt := 12) (by decide) ?_
          refine v_weak [some (.inr (2, 0)), some (.inr (1, 0)), some (.inl x2), some (.inr (5, i3)), some (.inl (x4 + 1)), none] ⟨rfl, rfl, rfl, rfl, rfl, trivial⟩ ?_
          exact h
        · replace h := h.2 c50
          refine v_iload C dX5_read_53 rfl ?_
          exact v_iret C dX5_read_55 h
abbrev spX5_read (L f : Int) (M : Mem) (K : Kont) : Prop := ((0 ≤ L ∧ L ≤ 200) ∧ (∀ p, 0 ≤ p → p < 200 → 0 ≤ M 1 0 p ∧ M 1 0 p < 65536)) ∧ ∀ M', AgD M M' f → cFilm M' f = (psr (M 1 0) L L.toNat 0 (sF0 (cFilm M f))).2 → WFf (cFilm M' f) → K (some (psr (M 1 0) L L.toNat 0 (sF0 (cFilm M f))).1) M'
theorem ctX5_read : CtX5_read spX5_read := by
  refine ct_of (by decide) dmC (fun _ => Nat.le_of_ble_eq_true rfl) ?_
  intro κ a M K C oM h
  obtain ⟨L, f⟩ := a
  dsimp only [spX5_read] at h
  obtain ⟨⟨hL, hX⟩, hk⟩ := h
  generalize hR : psr (M 1 0) L L.toNat 0 (sF0 (cFilm M f)) = R at hk
  have loop : ∀ (n : Nat) (x : Int) (N : Mem), x + n = L → 0 ≤ x → AgD M N f → 0 ≤ N 2 0 3 → WFf (cFilm N f) → psr (M 1 0) L n (N 2 0 3) (cFilm N f) = R →
      V κ 6 N 12 [some (.inr (2, 0)), some (.inr (1, 0)), some (.inl L), some (.inr (5, f)), some (.inl x), none] [] K := by
    intro n
    induction n with
    | zero =>
      intro x N hn h0 hA hat hw hp
      have hp' : ((-4 : Int), cFilm N f) = R := hp
      refine sgX5_read_12 C L f x ⟨fun c => ?_, fun c => absurd (by omega) c⟩
      have := hk N hA (by rw [← hp']) hw
      rw [← hp'] at this
      exact this
    | succ n ih =>
      intro x N hn h0 hA hat hw hp
      have e1 : N 1 = M 1 := hA.reg (by decide)
      unfold psr at hp
      refine sgX5_read_12 C L f x ⟨fun c => absurd c (by omega), fun c => ⟨fun c2 => ?_, fun c2 => ?_⟩⟩
      · rw [if_pos c2] at hp
        have := hk N hA (by rw [← hp]) hw
        rw [← hp] at this
        exact this
      · rw [if_neg c2] at hp
        refine ⟨⟨hat, by omega, hL.2⟩, ?_, ?_⟩
        · intro N1 hA1 ht
          rw [e1] at ht
          rw [ht] at hp
          have hA2 := hA.tr (hA1.toD f)
          have ef := hA1.film f
          refine ⟨fun _ => ?_, fun z => absurd rfl z⟩
          have := hk N1 hA2 (by rw [ef, ← hp]) (by rw [ef]; exact hw)
          rw [← hp] at this
          exact this
        · intro N1 l e hA1 ht hlen hend hnum
          rw [e1] at ht
          rw [ht] at hp
          have tl := tks_len 9 _ l e ht
          have hA2 := hA.tr (hA1.toD f)
          have ef := hA1.film f
          have e11 : N1 1 = M 1 := hA2.reg (by decide)
          have hx := hX (N 2 0 3) hat (by omega)
          refine ⟨fun z => absurd z (by decide), fun _ => ⟨by omega, ?_⟩⟩
          rw [e11]
          refine ⟨⟨hx, by rw [ef]; exact hw⟩, l, ⟨hlen, by omega, tl.2.2.2.2, hnum⟩, ?_⟩
          rw [ef]
          cases hi : itS (cFilm N f) (M 1 0 (N 2 0 3)) l with
          | none =>
            simp only [hi] at hp
            refine ⟨fun z => absurd rfl z, fun _ => ?_⟩
            have := hk N1 hA2 (by rw [ef, ← hp]) (by rw [ef]; exact hw)
            rw [← hp] at this
            exact this
          | some F' =>
            simp only [hi] at hp
            intro N2 hA3 hc
            have wf2 : WFf F' := itS_wf hw ⟨by omega, tl.2.2.2.2⟩ hi
            have at2 : N2 2 0 3 = e := by rw [hA3.reg (r := 2) (by decide)]; exact hend
            refine ⟨fun _ => ⟨by omega, ih (x + 1) N2 (by omega) (by omega) (hA2.tr hA3.toD) (by rw [at2]; omega) (by rw [hc]; exact wf2) (by rw [at2, hc]; exact hp)⟩, fun z => absurd (by decide) z⟩
  refine sgX5_read_0 C L f ?_
  intro N1 hA1 hc1 N2 e2
  have ef : cFilm N2 f = sF0 (cFilm M f) := by
    rw [← hc1]
    refine cFilm_eq (fun r a b => ?_) f
    funext i j
    rw [e2, up3_r _ _ _ _ _ (by omega)]
  have at2 : N2 2 0 3 = 0 := by rw [e2, up3_s]
  have hA2 : AgD M N2 f := hA1.toD.tr (by
    intro r i j hn
    rw [e2]
    exact if_neg (fun z => hn (Or.inl (by omega))))
  exact loop L.toNat 0 N2 (by omega) (by omega) hA2 (by omega) (by rw [ef]; exact sF0_wf _) (by rw [at2, ef]; exact hR)
end
section
/-! ===== films that agree where it counts give the same ===== -/
def SEq (T : Int) (S S' : Int → Int) : Prop := ∀ t, 0 ≤ t → t ≤ T → S t = S' t
def FEq (F G : Film) : Prop := F 0 0 0 = G 0 0 0 ∧ F 1 0 0 = G 1 0 0 ∧ F 2 0 0 = G 2 0 0 ∧ F 3 0 0 = G 3 0 0 ∧ (∀ w, 0 ≤ w → w < 4 → F 4 w 0 = G 4 w 0) ∧
  (∀ s, 0 ≤ s → s < F 2 0 0 → F 5 s 0 = G 5 s 0 ∧ F 6 s 0 = G 6 s 0 ∧ F 7 s 0 = G 7 s 0) ∧
  (∀ p, 0 ≤ p → p < F 3 0 0 → F 8 p 0 = G 8 p 0 ∧ F 9 p 0 = G 9 p 0 ∧ F 10 p 0 = G 10 p 0 ∧ F 11 p 0 = G 11 p 0 ∧ F 12 p 0 = G 12 p 0 ∧ ∀ v, 0 ≤ v → v < F 11 p 0 → F 13 p v = G 13 p v ∧ F 14 p v = G 14 p v)
theorem FEq.rf {F : Film} : FEq F F := ⟨rfl, rfl, rfl, rfl, fun _ _ _ => rfl, fun _ _ _ => ⟨rfl, rfl, rfl⟩, fun _ _ _ => ⟨rfl, rfl, rfl, rfl, rfl, fun _ _ _ => ⟨rfl, rfl⟩⟩⟩
theorem SEq.rf {T : Int} {S : Int → Int} : SEq T S S := fun _ _ _ => rfl
theorem FEq.wf {F G : Film} (h : FEq F G) (hf : WFf F) : WFf G := by
  obtain ⟨e0, e1, e2, e3, e4, e5, e6⟩ := h
  obtain ⟨h0, h1, h2, h3, h4, h5, h6⟩ := hf
  refine ⟨by rw [← e0]; exact h0, by rw [← e1]; exact h1, by rw [← e2]; exact h2, by rw [← e3]; exact h3, fun w a b => by rw [← e4 w a b]; exact h4 w a b, fun s a b => ?_, fun p a b => ?_⟩
  · rw [← e2] at b
    have q := e5 s a b
    have := h5 s a b
    unfold WFs at this ⊢
    rw [← q.1, ← q.2.1, ← q.2.2, ← e0]
    exact this
  · rw [← e3] at b
    have q := e6 p a b
    have := h6 p a b
    unfold WFp at this ⊢
    rw [← q.1, ← q.2.1, ← q.2.2.1, ← q.2.2.2.1, ← q.2.2.2.2.1, ← e0]
    refine ⟨this.1, this.2.1, this.2.2.1, this.2.2.2.1, this.2.2.2.2.1, fun v c d => ?_⟩
    have r := q.2.2.2.2.2 v c d
    rw [← r.1, ← r.2]
    exact this.2.2.2.2.2 v c d
section CG
variable {F G : Film} {S S' Q Q' : Int → Int}
theorem ownW_c (hf : WFf F) (hg : FEq F G) (hS : SEq (F 0 0 0) S S') {p v t : Int} (hp : 0 ≤ p) (hp2 : p < F 3 0 0) (hv : 0 ≤ v) (hv2 : v < F 11 p 0) (ht : 0 ≤ t) : ownW F S p v t = ownW G S' p v t := by
  have q := hg.2.2.2.2.2.2 p hp hp2
  have r := q.2.2.2.2.2 v hv hv2
  have w := wf_pv hf hp hp2 hv hv2
  unfold ownW
  rw [← hg.1, ← q.1, ← q.2.1, ← q.2.2.1, ← r.1]
  by_cases c : F 0 0 0 < t + F 13 p v
  · rw [if_pos c, if_pos c]
  · rw [if_neg c, if_neg c, hS t ht (by omega), hS (t + F 13 p v) (by omega) (by omega)]
theorem gainW_c (hf : WFf F) (hg : FEq F G) (hQ : SEq (F 0 0 0) Q Q') {p v t : Int} (hp : 0 ≤ p) (hp2 : p < F 3 0 0) (hv : 0 ≤ v) (hv2 : v < F 11 p 0) (ht : 0 ≤ t) (ht2 : t < F 0 0 0) : gainW F Q p v t = gainW G Q' p v t := by
  have q := hg.2.2.2.2.2.2 p hp hp2
  have r := q.2.2.2.2.2 v hv hv2
  have w := wf_pv hf hp hp2 hv hv2
  unfold gainW shiftW
  rw [← hg.1, ← q.1, ← r.1, ← r.2, ← hg.2.2.2.2.1 0 (by decide) (by decide), ← hg.2.2.2.2.1 1 (by decide) (by decide), hQ t ht (by omega), hQ (min (t + F 13 p v) (F 0 0 0)) (by omega) (by omega)]
variable {ver sta ver' sta' : Int → Int}
theorem C4_c (hf : WFf F) (hg : FEq F G) (hP : PlK F ver sta) (he : PlEq ver sta ver' sta') {p v t : Int} (hp : 0 ≤ p) (hp2 : p < F 3 0 0) (hv : 0 ≤ v) (hv2 : v < F 11 p 0) : C4 F ver sta p v t ↔ C4 G ver' sta' p v t := by
  have q := hg.2.2.2.2.2.2 p hp hp2
  have r := q.2.2.2.2.2 v hv hv2
  have n3 := hf.2.2.2.1
  constructor
  · rintro ⟨k, a, b, c, d, e, f⟩
    have ek := he k a (by omega)
    have pk := hP.at a (by omega) d
    have qk := (hg.2.2.2.2.2.2 k a b).2.2.2.2.2 (ver k) pk.2.1.1 pk.2.1.2
    refine ⟨k, a, by rw [← hg.2.2.2.1]; exact b, c, by rw [← ek.1]; exact d, ?_, ?_⟩
    · rw [← ek.2, ← r.1, ← hg.2.1]; exact e
    · rw [← ek.2, ← ek.1, ← qk.1, ← hg.2.1]; exact f
  · rintro ⟨k, a, b, c, d, e, f⟩
    rw [← hg.2.2.2.1] at b
    have ek := he k a (by omega)
    rw [← ek.1] at d
    have pk := hP.at a (by omega) d
    have qk := (hg.2.2.2.2.2.2 k a b).2.2.2.2.2 (ver k) pk.2.1.1 pk.2.1.2
    refine ⟨k, a, b, c, d, ?_, ?_⟩
    · rw [← ek.2, ← r.1, ← hg.2.1] at e; exact e
    · rw [← ek.2, ← ek.1, ← qk.1, ← hg.2.1] at f; exact f
theorem C6_c (hf : WFf F) (hg : FEq F G) (he : PlEq ver sta ver' sta') {p v t : Int} (hp : 0 ≤ p) (hp2 : p < F 3 0 0) (hv : 0 ≤ v) (hv2 : v < F 11 p 0) : C6 F ver sta p v t ↔ C6 G ver' sta' p v t := by
  have q := hg.2.2.2.2.2.2 p hp hp2
  have r := q.2.2.2.2.2 v hv hv2
  have n3 := hf.2.2.2.1
  constructor
  · rintro ⟨k, a, b, c, d, e⟩
    have ek := he k a (by omega)
    have qk := hg.2.2.2.2.2.2 k a b
    exact ⟨k, a, by rw [← hg.2.2.2.1]; exact b, by rw [← qk.2.2.2.2.1]; exact c, by rw [← ek.1]; exact d, by rw [← ek.2, ← r.1]; exact e⟩
  · rintro ⟨k, a, b, c, d, e⟩
    rw [← hg.2.2.2.1] at b
    have ek := he k a (by omega)
    have qk := hg.2.2.2.2.2.2 k a b
    exact ⟨k, a, b, by rw [qk.2.2.2.2.1]; exact c, by rw [ek.1]; exact d, by rw [ek.2, r.1]; exact e⟩
theorem C5_c (hf : WFf F) (hg : FEq F G) (hP : PlK F ver sta) (he : PlEq ver sta ver' sta') {p t : Int} (hp : 0 ≤ p) (hp2 : p < F 3 0 0) : C5 F ver sta p t ↔ C5 G ver' sta' p t := by
  have q := hg.2.2.2.2.2.2 p hp hp2
  have w := wf_p hf hp hp2
  unfold C5
  rw [← q.2.2.2.2.1]
  by_cases e : F 12 p 0 = -4
  · constructor
    · intro z; exact absurd e z.1
    · intro z; exact absurd e z.1
  · have ek := he (F 12 p 0) (by omega) (by omega)
    by_cases d : ver (F 12 p 0) = -4
    · have d' : ver' (F 12 p 0) = -4 := by rw [← ek.1]; exact d
      constructor
      · intro _; exact ⟨e, Or.inl d'⟩
      · intro _; exact ⟨e, Or.inl d⟩
    · have pk := hP.at (q := F 12 p 0) (by omega) (by omega) d
      have qk := (hg.2.2.2.2.2.2 (F 12 p 0) (by omega) pk.1).2.2.2.2.2 _ pk.2.1.1 pk.2.1.2
      rw [← ek.1, ← ek.2, ← qk.1]
theorem whyB_c (hf : WFf F) (hg : FEq F G) (hP : PlK F ver sta) (he : PlEq ver sta ver' sta') {p v t : Int} (hp : 0 ≤ p) (hp2 : p < F 3 0 0) (hv : 0 ≤ v) (hv2 : v < F 11 p 0) : whyB F ver sta p v t = whyB G ver' sta' p v t := by
  have c4 := C4_c (t := t) hf hg hP he hp hp2 hv hv2
  have c5 := C5_c (t := t) hf hg hP he hp hp2
  have c6 := C6_c (t := t) hf hg he hp hp2 hv hv2
  by_cases h4 : C4 F ver sta p v t
  · rw [whyB_4 h4, whyB_4 (c4.mp h4)]
  · have h4' := fun z => h4 (c4.mpr z)
    by_cases h5 : C5 F ver sta p t
    · rw [whyB_5 h4 h5, whyB_5 h4' (c5.mp h5)]
    · have h5' := fun z => h5 (c5.mpr z)
      by_cases h6 : C6 F ver sta p v t
      · rw [whyB_6 h4 h5 h6, whyB_6 h4' h5' (c6.mp h6)]
      · rw [whyB_0 h4 h5 h6, whyB_0 h4' h5' (fun z => h6 (c6.mpr z))]
theorem whyW_c (hf : WFf F) (hg : FEq F G) (hS : SEq (F 0 0 0) S S') (hP : PlK F ver sta) (he : PlEq ver sta ver' sta') {p v t : Int} (hp : 0 ≤ p) (hp2 : p < F 3 0 0) (hv : 0 ≤ v) (hv2 : v < F 11 p 0) (ht : 0 ≤ t) : whyW F S ver sta p v t = whyW G S' ver' sta' p v t := by
  unfold whyW
  rw [ownW_c hf hg hS hp hp2 hv hv2 ht, whyB_c hf hg hP he hp hp2 hv hv2]
theorem sumN_c {f g : Int → Int} : ∀ n : Nat, (∀ t : Int, 0 ≤ t → t < n → f t = g t) → sumN f n = sumN g n := by
  intro n
  induction n with
  | zero => intro _; rfl
  | succ n ih =>
    intro h
    show sumN f n + f n = sumN g n + g n
    rw [ih (fun t a b => h t a (by omega)), h n (by omega) (by omega)]
theorem opN_c (hf : WFf F) (hg : FEq F G) (hS : SEq (F 0 0 0) S S') {p v : Int} (hp : 0 ≤ p) (hp2 : p < F 3 0 0) (hv : 0 ≤ v) (hv2 : v < F 11 p 0) (n : Nat) : opN F S p v n = opN G S' p v n :=
  sumN_c n (fun t a _ => by rw [ownW_c hf hg hS hp hp2 hv hv2 a])
theorem ggN_c (hf : WFf F) (hg : FEq F G) (hS : SEq (F 0 0 0) S S') (hQ : SEq (F 0 0 0) Q Q') {p v : Int} (hp : 0 ≤ p) (hp2 : p < F 3 0 0) (hv : 0 ≤ v) (hv2 : v < F 11 p 0) : ∀ n : Nat, (n : Int) ≤ F 0 0 0 → ggN F S Q p v n = ggN G S' Q' p v n := by
  intro n
  induction n with
  | zero => intro _; rfl
  | succ n ih =>
    intro hn
    unfold ggN
    rw [ih (by omega), ownW_c hf hg hS hp hp2 hv hv2 (by omega), gainW_c hf hg hQ hp hp2 hv hv2 (by omega) (by omega)]
theorem szN_c (he : PlEq ver sta ver' sta') (n : Nat) (hn : n ≤ 7) : szN ver n = szN ver' n := sumN_c n (fun t a b => by rw [(he t a (by omega)).1])
theorem vaN_c (hf : WFf F) (hg : FEq F G) (hQ : SEq (F 0 0 0) Q Q') (hP : PlK F ver sta) (he : PlEq ver sta ver' sta') (n : Nat) (hn : (n : Int) ≤ F 3 0 0) : vaN F Q ver sta n = vaN G Q' ver' sta' n := by
  have n3 := hf.2.2.2.1
  refine sumN_c n (fun t a b => ?_)
  have ek := he t a (by omega)
  rw [← ek.1, ← ek.2]
  by_cases c : ver t = -4
  · rw [if_pos c, if_pos c]
  · have pk := hP.at a (by omega) c
    have w := wf_pv hf a pk.1 pk.2.1.1 pk.2.1.2
    rw [if_neg c, if_neg c, gainW_c hf hg hQ a pk.1 pk.2.1.1 pk.2.1.2 pk.2.2.1 (by omega)]
theorem tkN_c (hf : WFf F) (hg : FEq F G) (hP : PlK F ver sta) (he : PlEq ver sta ver' sta') (x y : Int) (n : Nat) (hn : (n : Int) ≤ F 3 0 0) : tkN F ver sta x y n = tkN G ver' sta' x y n := by
  have n3 := hf.2.2.2.1
  refine sumN_c n (fun t a b => ?_)
  have ek := he t a (by omega)
  rw [← ek.1, ← ek.2]
  by_cases c : ver t = -4
  · rw [if_pos c, if_pos c]
  · have pk := hP.at a (by omega) c
    have qk := (hg.2.2.2.2.2.2 t a pk.1).2.2.2.2.2 _ pk.2.1.1 pk.2.1.2
    rw [if_neg c, if_neg c, ← qk.1]
theorem lowF_c (hf : WFf F) (hg : FEq F G) (hS : SEq (F 0 0 0) S S') (hP : PlK F ver sta) (he : PlEq ver sta ver' sta') : ∀ (n : Nat) (p : Int), 0 ≤ p → p + n ≤ F 3 0 0 → lowF F S ver sta n p = lowF G S' ver' sta' n p := by
  have n3 := hf.2.2.2.1
  intro n
  induction n with
  | zero => intro p _ _; rfl
  | succ n ih =>
    intro p a b
    have ek := he p a (by omega)
    unfold lowF
    rw [ih (p + 1) (by omega) (by omega), ← ek.1, ← ek.2]
    by_cases c : ver p = -4
    · rw [if_neg (fun z => z.1 c), if_neg (fun z => z.1 c)]
    · have pk := hP.at a (by omega) c
      rw [whyW_c hf hg hS hP he a pk.1 pk.2.1.1 pk.2.1.2 pk.2.2.1]
theorem dfN_c (hf : WFf F) (hg : FEq F G) (hS : SEq (F 0 0 0) S S') : ∀ (n : Nat) (ver sta ver' sta' : Int → Int), PlK F ver sta → PlEq ver sta ver' sta' → PlEq (dfN F S n ver sta).1 (dfN F S n ver sta).2 (dfN G S' n ver' sta').1 (dfN G S' n ver' sta').2 ∧ PlK F (dfN F S n ver sta).1 (dfN F S n ver sta).2 := by
  have n3 := hf.2.2.2.1
  intro n
  induction n with
  | zero => intro ver sta ver' sta' hP he; exact ⟨he, hP⟩
  | succ n ih =>
    intro ver sta ver' sta' hP he
    have hl := lowF_c hf hg hS hP he (F 3 0 0).toNat 0 (by omega) (by omega)
    unfold dfN
    rw [← hg.2.2.2.1, ← hl]
    split
    · exact ⟨he, hP⟩
    · refine ih _ _ _ _ (PlK_off hP _) (fun q a b => ?_)
      have ek := he q a b
      unfold offP
      rw [ek.1, ek.2]
      exact ⟨rfl, rfl⟩
theorem mkN_c (hg : FEq F G) (t : Int) : ∀ n : Nat, (n : Int) ≤ F 2 0 0 → mkN F t n = mkN G t n := by
  intro n
  induction n with
  | zero => intro _; rfl
  | succ n ih =>
    intro hn
    have q := hg.2.2.2.2.2.1 n (by omega) (by omega)
    unfold mkN
    rw [ih (by omega), q.1, q.2.1, q.2.2]
theorem mkF_c (hf : WFf F) (hg : FEq F G) (t : Int) : mkF F t = mkF G t := by
  have := hf.2.2.1
  unfold mkF
  rw [← hg.2.2.1]
  exact mkN_c hg t _ (by omega)
theorem spb_c (hf : WFf F) (hg : FEq F G) (t : Int) : spb F t = spb G t := sumN_c _ (fun u _ _ => by unfold spc; rw [mkF_c hf hg])
theorem csb_c (hf : WFf F) (hg : FEq F G) (t : Int) : csb F t = csb G t := sumN_c _ (fun u _ _ => by unfold cst; rw [mkF_c hf hg, hg.2.2.2.2.1 2 (by decide) (by decide), hg.2.2.2.2.1 3 (by decide) (by decide)])
/-- the table -/
theorem bV_c (hf : WFf F) (hg : FEq F G) (hS : SEq (F 0 0 0) S S') (hQ : SEq (F 0 0 0) Q Q') {B : Int} (hB : 0 ≤ B) {f f' : Int → Int → Int} {t set p : Int} (hp : 0 ≤ p) (hp2 : p < F 3 0 0) (ht : 0 ≤ t) (ht2 : t < F 0 0 0) (hff : ∀ u s, t < u → u ≤ F 0 0 0 → f u s = f' u s) : ∀ (k : Nat) (b : Int), (k : Int) ≤ F 11 p 0 → bV F S Q B f t set p k b = bV G S' Q' B f' t set p k b := by
  have q := hg.2.2.2.2.2.2 p hp hp2
  intro k
  induction k with
  | zero => intro b _; rfl
  | succ k ih =>
    intro b hk
    have w := wf_pv hf hp hp2 (v := k) (by omega) (by omega)
    have r := q.2.2.2.2.2 k (by omega) (by omega)
    unfold bV begOk begW
    rw [ih b (by omega), ownW_c hf hg hS hp hp2 (by omega) (by omega) ht, gainW_c hf hg hQ hp hp2 (by omega) (by omega) ht ht2, ← r.1, ← hg.1, ← q.2.2.2.2.1, hff _ _ (by omega) (by omega)]
theorem bP_c (hf : WFf F) (hg : FEq F G) (hS : SEq (F 0 0 0) S S') (hQ : SEq (F 0 0 0) Q Q') {B : Int} (hB : 0 ≤ B) {f f' : Int → Int → Int} {t set may may' : Int} (hm : ∀ k, 0 ≤ k → k < F 3 0 0 → bit may k = bit may' k) (ht : 0 ≤ t) (ht2 : t < F 0 0 0) (hff : ∀ u s, t < u → u ≤ F 0 0 0 → f u s = f' u s) : ∀ (n : Nat), (n : Int) ≤ F 3 0 0 → bP F S Q B f t set may n = bP G S' Q' B f' t set may' n := by
  intro n
  induction n with
  | zero => intro _; exact hff (t + 1) set (by omega) (by omega)
  | succ n ih =>
    intro hn
    have q := hg.2.2.2.2.2.2 n (by omega) (by omega)
    have w := wf_p hf (p := n) (by omega) (by omega)
    unfold bP
    rw [ih (by omega), hm n (by omega) (by omega), ← q.2.2.2.1, bV_c hf hg hS hQ hB (by omega) (by omega) ht ht2 hff _ _ (by omega)]
theorem tab_c (hf : WFf F) (hg : FEq F G) (hS : SEq (F 0 0 0) S S') (hQ : SEq (F 0 0 0) Q Q') {B : Int} (hB : 0 ≤ B) {may may' : Int} (hm : ∀ k, 0 ≤ k → k < F 3 0 0 → bit may k = bit may' k) : ∀ (n : Nat) (t set : Int), (n : Int) ≤ F 0 0 0 → F 0 0 0 - n ≤ t → t ≤ F 0 0 0 → tabR F S Q B may n t set = tabR G S' Q' B may' n t set := by
  have n3 := hf.2.2.2.1
  intro n
  induction n with
  | zero => intro t set _ _ _; rfl
  | succ n ih =>
    intro t set hn h1 h2
    show (if t = F 0 0 0 - (n + 1) then _ else _) = (if t = G 0 0 0 - (n + 1) then _ else _)
    rw [← hg.1, ← hg.2.2.2.1]
    by_cases e : t = F 0 0 0 - (n + 1)
    · rw [if_pos e, if_pos e]
      exact bP_c hf hg hS hQ hB hm (by omega) (by omega) (fun u s a b => ih u s (by omega) (by omega) b) _ (by omega)
    · rw [if_neg e, if_neg e]
      exact ih t set (by omega) (by omega) h2
theorem fiV_c (hf : WFf F) (hg : FEq F G) (hS : SEq (F 0 0 0) S S') (hQ : SEq (F 0 0 0) Q Q') {B : Int} (hB : 0 ≤ B) {f f' : Int → Int → Int} (hff : ∀ u s, 0 ≤ u → u ≤ F 0 0 0 → f u s = f' u s) {t set p : Int} (hp : 0 ≤ p) (hp2 : p < F 3 0 0) (ht : 0 ≤ t) (ht2 : t < F 0 0 0) : ∀ (n : Nat) (v : Int), 0 ≤ v → v + n ≤ F 11 p 0 → fiV F S Q B f t set p n v = fiV G S' Q' B f' t set p n v := by
  have q := hg.2.2.2.2.2.2 p hp hp2
  intro n
  induction n with
  | zero => intro v _ _; rfl
  | succ n ih =>
    intro v v0 v1
    have w := wf_pv hf hp hp2 v0 (by omega)
    have r := q.2.2.2.2.2 v v0 (by omega)
    unfold fiV begOk begW
    rw [ih (v + 1) (by omega) (by omega), ownW_c hf hg hS hp hp2 v0 (by omega) ht, gainW_c hf hg hQ hp hp2 v0 (by omega) ht ht2, ← r.1, ← hg.1, ← q.2.2.2.2.1, hff _ _ (by omega) (by omega), hff t set ht (by omega)]
theorem fiP_c (hf : WFf F) (hg : FEq F G) (hS : SEq (F 0 0 0) S S') (hQ : SEq (F 0 0 0) Q Q') {B : Int} (hB : 0 ≤ B) {f f' : Int → Int → Int} (hff : ∀ u s, 0 ≤ u → u ≤ F 0 0 0 → f u s = f' u s) {t set : Int} (ht : 0 ≤ t) (ht2 : t < F 0 0 0) : ∀ (n : Nat) (p : Int), 0 ≤ p → p + n ≤ F 3 0 0 → fiP F S Q B f t set n p = fiP G S' Q' B f' t set n p := by
  intro n
  induction n with
  | zero => intro p _ _; rfl
  | succ n ih =>
    intro p p0 p1
    have q := hg.2.2.2.2.2.2 p p0 (by omega)
    have w := wf_p hf p0 (by omega)
    unfold fiP
    rw [ih (p + 1) (by omega) (by omega), ← q.2.2.2.1, fiV_c hf hg hS hQ hB hff p0 (by omega) ht ht2 _ 0 (by omega) (by omega)]
theorem trC_c (hf : WFf F) (hg : FEq F G) (hS : SEq (F 0 0 0) S S') (hQ : SEq (F 0 0 0) Q Q') {B : Int} (hB : 0 ≤ B) {f f' : Int → Int → Int} (hff : ∀ u s, 0 ≤ u → u ≤ F 0 0 0 → f u s = f' u s) : ∀ (n : Nat) (t free set : Int) (ver sta : Int → Int), 0 ≤ t → t + n ≤ F 0 0 0 → trC F S Q B f n t free set ver sta = trC G S' Q' B f' n t free set ver sta := by
  have n3 := hf.2.2.2.1
  intro n
  induction n with
  | zero => intro t free set ver sta _ _; rfl
  | succ n ih =>
    intro t free set ver sta t0 t1
    have hfi := fiP_c hf hg hS hQ hB hff (t := t) (set := set) t0 (by omega) (F 3 0 0).toNat 0 (by omega) (by omega)
    have sp := fiP_spec hf (S := S) (Q := Q) (B := B) (f := f) (t := t) (set := set) (F 3 0 0).toNat 0 (by omega) (by omega)
    unfold trC
    rw [← hg.2.2.2.1, ← hfi]
    by_cases c : t < free
    · rw [if_pos c, if_pos c]
      exact ih _ _ _ _ _ (by omega) (by omega)
    · rw [if_neg c, if_neg c]
      by_cases d : fiP F S Q B f t set (F 3 0 0).toNat 0 < 0
      · rw [if_pos d, if_pos d]
        exact ih _ _ _ _ _ (by omega) (by omega)
      · rw [if_neg d, if_neg d]
        rcases sp with z | ⟨q, k, z1, z2, z3, z4, z5, -⟩
        · omega
        · have w := wf_p hf z1 z2
          have r := (hg.2.2.2.2.2.2 q z1 z2).2.2.2.2.2 k z3 z4
          rw [z5]
          have d1 : (3 * q + k) / 3 = q := by omega
          have d2 : (3 * q + k) % 3 = k := by omega
          rw [d1, d2, ← hg.1, ← r.1]
          exact ih _ _ _ _ _ (by omega) (by omega)
theorem bstP_c (hf : WFf F) (hg : FEq F G) (hS : SEq (F 0 0 0) S S') (hQ : SEq (F 0 0 0) Q Q') {B : Int} (hB : 0 ≤ B) : bstP F S Q B = bstP G S' Q' B := by
  have h0 := hf.1
  unfold bstP
  rw [← hg.1, ← hg.2.2.2.1]
  exact trC_c hf hg hS hQ hB (fun u s a b => tab_c hf hg hS hQ hB (fun _ _ _ => rfl) _ u s (by omega) (by omega) b) _ _ _ _ _ _ (by omega) (by omega)
/-- greedy -/
theorem grT_c (hf : WFf F) (hg : FEq F G) (hS : SEq (F 0 0 0) S S') (hQ : SEq (F 0 0 0) Q Q') (hP : PlK F ver sta) (he : PlEq ver sta ver' sta') {p v : Int} (hp : 0 ≤ p) (hp2 : p < F 3 0 0) (hv : 0 ≤ v) (hv2 : v < F 11 p 0) : ∀ (n : Nat) (s : gSt), (n : Int) ≤ F 0 0 0 → grT F S Q ver sta p v n s = grT G S' Q' ver' sta' p v n s := by
  have r := (hg.2.2.2.2.2.2 p hp hp2).2.2.2.2.2 v hv hv2
  intro n
  induction n with
  | zero => intro s _; rfl
  | succ n ih =>
    intro s hn
    show grO F S Q ver sta p v n _ = grO G S' Q' ver' sta' p v n _
    unfold grO offS
    rw [ih s (by omega), whyW_c hf hg hS hP he hp hp2 hv hv2 (by omega), gainW_c hf hg hQ hp hp2 hv hv2 (by omega) (by omega), ← r.2]
theorem grV_c (hf : WFf F) (hg : FEq F G) (hS : SEq (F 0 0 0) S S') (hQ : SEq (F 0 0 0) Q Q') (hP : PlK F ver sta) (he : PlEq ver sta ver' sta') {pz pz' : Int → Bool} (hz : ∀ k, 0 ≤ k → k < 21 → pz k = pz' k) {p : Int} (hp : 0 ≤ p) (hp2 : p < F 3 0 0) : ∀ (n : Nat) (s : gSt), (n : Int) ≤ F 11 p 0 → grV F S Q ver sta pz p n s = grV G S' Q' ver' sta' pz' p n s := by
  have w := wf_p hf hp hp2
  intro n
  induction n with
  | zero => intro s _; rfl
  | succ n ih =>
    intro s hn
    unfold grV
    rw [ih s (by omega), hz (p * 3 + n) (by omega) (by omega), ← hg.1, grT_c hf hg hS hQ hP he hp hp2 (by omega) (by omega) _ _ (by omega)]
theorem grP_c (hf : WFf F) (hg : FEq F G) (hS : SEq (F 0 0 0) S S') (hQ : SEq (F 0 0 0) Q Q') (hP : PlK F ver sta) (he : PlEq ver sta ver' sta') {pz pz' : Int → Bool} (hz : ∀ k, 0 ≤ k → k < 21 → pz k = pz' k) : ∀ (n : Nat), (n : Int) ≤ F 3 0 0 → grP F S Q ver sta pz n = grP G S' Q' ver' sta' pz' n := by
  have n3 := hf.2.2.2.1
  intro n
  induction n with
  | zero => intro _; rfl
  | succ n ih =>
    intro hn
    have q := hg.2.2.2.2.2.2 n (by omega) (by omega)
    have w := wf_p hf (p := n) (by omega) (by omega)
    unfold grP
    rw [ih (by omega), (he n (by omega) (by omega)).1, ← q.2.2.2.1, grV_c hf hg hS hQ hP he hz (by omega) (by omega) _ _ (by omega)]
theorem grG_c (hf : WFf F) (hg : FEq F G) (hS : SEq (F 0 0 0) S S') (hQ : SEq (F 0 0 0) Q Q') : ∀ (n : Nat) (ver sta ver' sta' : Int → Int) (pz pz' : Int → Bool), PlK F ver sta → PlEq ver sta ver' sta' → (∀ k, 0 ≤ k → k < 21 → pz k = pz' k) →
    PlEq (grG F S Q n ver sta pz).1 (grG F S Q n ver sta pz).2 (grG G S' Q' n ver' sta' pz').1 (grG G S' Q' n ver' sta' pz').2 ∧ PlK F (grG F S Q n ver sta pz).1 (grG F S Q n ver sta pz).2 := by
  have n3 := hf.2.2.2.1
  intro n
  induction n with
  | zero => intro ver sta ver' sta' pz pz' hP he _; exact ⟨he, hP⟩
  | succ n ih =>
    intro ver sta ver' sta' pz pz' hP he hz
    have ok := grP_ok hf (S := S) (Q := Q) (ver := ver) (sta := sta) (pz := pz) (F 3 0 0).toNat (by omega)
    unfold grG
    rw [← hg.2.2.2.1, ← grP_c hf hg hS hQ hP he hz _ (by omega)]
    split
    · exact ⟨he, hP⟩
    · rename_i c
      split
      · refine ih _ _ _ _ _ _ hP he (fun k a b => ?_)
        unfold setB
        rw [hz k a b]
      · rcases ok with z | ⟨o1, o2, o3, o4, o5, o6, -⟩
        · exact absurd (by rw [z]) c
        · exact ih _ _ _ _ _ _ (PlK_put hP o1.2 o3 o5.1 (own_end (why_own o6)).1) (he.put _ _ _) hz
theorem gre_c (hf : WFf F) (hg : FEq F G) (hS : SEq (F 0 0 0) S S') (hQ : SEq (F 0 0 0) Q Q') : PlEq (gre F S Q).1 (gre F S Q).2 (gre G S' Q').1 (gre G S' Q').2 ∧ PlK F (gre F S Q).1 (gre F S Q).2 :=
  grG_c hf hg hS hQ 22 _ _ _ _ _ _ (fun q _ _ => Or.inl ⟨rfl, rfl⟩) PlEq.rf (fun _ _ _ => rfl)
end CG
end
