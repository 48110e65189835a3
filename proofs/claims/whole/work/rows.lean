section
-- ===== PART A: goes FIRST, ahead of the names: the tables' words, and 'selects' of the private methods out of them =====
/-- a private method of a class that the tables say can be made, by its rows of tables_1 -/
def lw_okq (q : MethodName × Nat) : Prop := (q.1.cls ≠ "java/lang/invoke/MethodHandle" ∧ q.1.cls ≠ "java/lang/invoke/VarHandle") ∧ Cond.instantiable q.1.cls q.2 ∈ tables_1 ∧ Cond.privateMethod q.1 ∈ tables_1 ∧ Cond.instanceMethod q.1 ∈ tables_1
theorem lw_p0 : lw_okq (⟨"GapTellings", "layText", "()V"⟩, 13) := ⟨⟨by decide +kernel, by decide +kernel⟩, List.mem_of_getElem? (i := 20) (by decide +kernel), List.mem_of_getElem? (i := 313) (by decide +kernel), List.mem_of_getElem? (i := 314) (by decide +kernel)⟩
theorem lw_p1 : lw_okq (⟨"GapTellings", "filmChanged", "()V"⟩, 13) := ⟨⟨by decide +kernel, by decide +kernel⟩, List.mem_of_getElem? (i := 20) (by decide +kernel), List.mem_of_getElem? (i := 439) (by decide +kernel), List.mem_of_getElem? (i := 440) (by decide +kernel)⟩
theorem lw_p2 : lw_okq (⟨"GapTellings", "hasSound", "(I)Z"⟩, 13) := ⟨⟨by decide +kernel, by decide +kernel⟩, List.mem_of_getElem? (i := 20) (by decide +kernel), List.mem_of_getElem? (i := 566) (by decide +kernel), List.mem_of_getElem? (i := 567) (by decide +kernel)⟩
theorem lw_p3 : lw_okq (⟨"GapTellings", "hasPicture", "(I)Z"⟩, 13) := ⟨⟨by decide +kernel, by decide +kernel⟩, List.mem_of_getElem? (i := 20) (by decide +kernel), List.mem_of_getElem? (i := 578) (by decide +kernel), List.mem_of_getElem? (i := 579) (by decide +kernel)⟩
theorem lw_p4 : lw_okq (⟨"GapTellings", "hasVersion", "(II)Z"⟩, 13) := ⟨⟨by decide +kernel, by decide +kernel⟩, List.mem_of_getElem? (i := 20) (by decide +kernel), List.mem_of_getElem? (i := 587) (by decide +kernel), List.mem_of_getElem? (i := 588) (by decide +kernel)⟩
theorem lw_p5 : lw_okq (⟨"GapTellings", "hasTick", "(I)Z"⟩, 13) := ⟨⟨by decide +kernel, by decide +kernel⟩, List.mem_of_getElem? (i := 20) (by decide +kernel), List.mem_of_getElem? (i := 591) (by decide +kernel), List.mem_of_getElem? (i := 592) (by decide +kernel)⟩
theorem lw_p6 : lw_okq (⟨"GapTellings", "findBest", "()V"⟩, 13) := ⟨⟨by decide +kernel, by decide +kernel⟩, List.mem_of_getElem? (i := 20) (by decide +kernel), List.mem_of_getElem? (i := 637) (by decide +kernel), List.mem_of_getElem? (i := 638) (by decide +kernel)⟩
theorem lw_p7 : lw_okq (⟨"GapTellings", "ticksOpenNow", "(II)I"⟩, 13) := ⟨⟨by decide +kernel, by decide +kernel⟩, List.mem_of_getElem? (i := 20) (by decide +kernel), List.mem_of_getElem? (i := 709) (by decide +kernel), List.mem_of_getElem? (i := 710) (by decide +kernel)⟩
theorem lw_p8 : lw_okq (⟨"GapTellingsModel", "clears", "()V"⟩, 29) := ⟨⟨by decide +kernel, by decide +kernel⟩, List.mem_of_getElem? (i := 819) (by decide +kernel), List.mem_of_getElem? (i := 825) (by decide +kernel), List.mem_of_getElem? (i := 826) (by decide +kernel)⟩
theorem lw_p9 : lw_okq (⟨"GapTellingsModel", "reads", "()I"⟩, 29) := ⟨⟨by decide +kernel, by decide +kernel⟩, List.mem_of_getElem? (i := 819) (by decide +kernel), List.mem_of_getElem? (i := 929) (by decide +kernel), List.mem_of_getElem? (i := 930) (by decide +kernel)⟩
theorem lw_p10 : lw_okq (⟨"GapTellingsModel", "readsItem", "(II)Z"⟩, 29) := ⟨⟨by decide +kernel, by decide +kernel⟩, List.mem_of_getElem? (i := 819) (by decide +kernel), List.mem_of_getElem? (i := 933) (by decide +kernel), List.mem_of_getElem? (i := 934) (by decide +kernel)⟩
theorem lw_p11 : lw_okq (⟨"GapTellingsModel", "number", "(IIII)Z"⟩, 29) := ⟨⟨by decide +kernel, by decide +kernel⟩, List.mem_of_getElem? (i := 819) (by decide +kernel), List.mem_of_getElem? (i := 937) (by decide +kernel), List.mem_of_getElem? (i := 938) (by decide +kernel)⟩
theorem lw_p12 : lw_okq (⟨"GapTellingsModel", "isFigure", "(I)Z"⟩, 29) := ⟨⟨by decide +kernel, by decide +kernel⟩, List.mem_of_getElem? (i := 819) (by decide +kernel), List.mem_of_getElem? (i := 941) (by decide +kernel), List.mem_of_getElem? (i := 942) (by decide +kernel)⟩
theorem lw_p13 : lw_okq (⟨"GapTellingsModel", "letterAt", "(I)I"⟩, 29) := ⟨⟨by decide +kernel, by decide +kernel⟩, List.mem_of_getElem? (i := 819) (by decide +kernel), List.mem_of_getElem? (i := 945) (by decide +kernel), List.mem_of_getElem? (i := 946) (by decide +kernel)⟩
theorem lw_p14 : lw_okq (⟨"GapTellingsModel", "readsSound", "(II)Z"⟩, 29) := ⟨⟨by decide +kernel, by decide +kernel⟩, List.mem_of_getElem? (i := 819) (by decide +kernel), List.mem_of_getElem? (i := 952) (by decide +kernel), List.mem_of_getElem? (i := 953) (by decide +kernel)⟩
theorem lw_p15 : lw_okq (⟨"GapTellingsModel", "more", "(III)Z"⟩, 29) := ⟨⟨by decide +kernel, by decide +kernel⟩, List.mem_of_getElem? (i := 819) (by decide +kernel), List.mem_of_getElem? (i := 956) (by decide +kernel), List.mem_of_getElem? (i := 957) (by decide +kernel)⟩
def lw_privs_1 : List (MethodName × Nat) := [(⟨"GapTellings", "layText", "()V"⟩, 13), (⟨"GapTellings", "filmChanged", "()V"⟩, 13), (⟨"GapTellings", "hasSound", "(I)Z"⟩, 13), (⟨"GapTellings", "hasPicture", "(I)Z"⟩, 13), (⟨"GapTellings", "hasVersion", "(II)Z"⟩, 13), (⟨"GapTellings", "hasTick", "(I)Z"⟩, 13), (⟨"GapTellings", "findBest", "()V"⟩, 13), (⟨"GapTellings", "ticksOpenNow", "(II)I"⟩, 13), (⟨"GapTellingsModel", "clears", "()V"⟩, 29), (⟨"GapTellingsModel", "reads", "()I"⟩, 29), (⟨"GapTellingsModel", "readsItem", "(II)Z"⟩, 29), (⟨"GapTellingsModel", "number", "(IIII)Z"⟩, 29), (⟨"GapTellingsModel", "isFigure", "(I)Z"⟩, 29), (⟨"GapTellingsModel", "letterAt", "(I)I"⟩, 29), (⟨"GapTellingsModel", "readsSound", "(II)Z"⟩, 29), (⟨"GapTellingsModel", "more", "(III)Z"⟩, 29)]
theorem lw_r1 : ∀ q ∈ lw_privs_1, lw_okq q := List.forall_mem_cons.mpr ⟨lw_p0, List.forall_mem_cons.mpr ⟨lw_p1, List.forall_mem_cons.mpr ⟨lw_p2, List.forall_mem_cons.mpr ⟨lw_p3, List.forall_mem_cons.mpr ⟨lw_p4, List.forall_mem_cons.mpr ⟨lw_p5, List.forall_mem_cons.mpr ⟨lw_p6, List.forall_mem_cons.mpr ⟨lw_p7, List.forall_mem_cons.mpr ⟨lw_p8, List.forall_mem_cons.mpr ⟨lw_p9, List.forall_mem_cons.mpr ⟨lw_p10, List.forall_mem_cons.mpr ⟨lw_p11, List.forall_mem_cons.mpr ⟨lw_p12, List.forall_mem_cons.mpr ⟨lw_p13, List.forall_mem_cons.mpr ⟨lw_p14, List.forall_mem_cons.mpr ⟨lw_p15, fun _ h => absurd h List.not_mem_nil⟩⟩⟩⟩⟩⟩⟩⟩⟩⟩⟩⟩⟩⟩⟩⟩
theorem lw_p16 : lw_okq (⟨"GapTellingsModel", "readsPicture", "(I)Z"⟩, 29) := ⟨⟨by decide +kernel, by decide +kernel⟩, List.mem_of_getElem? (i := 819) (by decide +kernel), List.mem_of_getElem? (i := 960) (by decide +kernel), List.mem_of_getElem? (i := 961) (by decide +kernel)⟩
theorem lw_p17 : lw_okq (⟨"GapTellingsModel", "readsNeed", "(I)Z"⟩, 29) := ⟨⟨by decide +kernel, by decide +kernel⟩, List.mem_of_getElem? (i := 819) (by decide +kernel), List.mem_of_getElem? (i := 964) (by decide +kernel), List.mem_of_getElem? (i := 965) (by decide +kernel)⟩
theorem lw_p18 : lw_okq (⟨"GapTellingsModel", "hears", "()V"⟩, 29) := ⟨⟨by decide +kernel, by decide +kernel⟩, List.mem_of_getElem? (i := 819) (by decide +kernel), List.mem_of_getElem? (i := 984) (by decide +kernel), List.mem_of_getElem? (i := 985) (by decide +kernel)⟩
theorem lw_p19 : lw_okq (⟨"GapTellingsModel", "whyNot", "(III)I"⟩, 29) := ⟨⟨by decide +kernel, by decide +kernel⟩, List.mem_of_getElem? (i := 819) (by decide +kernel), List.mem_of_getElem? (i := 988) (by decide +kernel), List.mem_of_getElem? (i := 989) (by decide +kernel)⟩
theorem lw_p20 : lw_okq (⟨"GapTellingsModel", "whyByFilm", "(III)I"⟩, 29) := ⟨⟨by decide +kernel, by decide +kernel⟩, List.mem_of_getElem? (i := 819) (by decide +kernel), List.mem_of_getElem? (i := 992) (by decide +kernel), List.mem_of_getElem? (i := 993) (by decide +kernel)⟩
theorem lw_p21 : lw_okq (⟨"GapTellingsModel", "wide", "(II)I"⟩, 29) := ⟨⟨by decide +kernel, by decide +kernel⟩, List.mem_of_getElem? (i := 819) (by decide +kernel), List.mem_of_getElem? (i := 996) (by decide +kernel), List.mem_of_getElem? (i := 997) (by decide +kernel)⟩
theorem lw_p22 : lw_okq (⟨"GapTellingsModel", "endOf", "(I)I"⟩, 29) := ⟨⟨by decide +kernel, by decide +kernel⟩, List.mem_of_getElem? (i := 819) (by decide +kernel), List.mem_of_getElem? (i := 1000) (by decide +kernel), List.mem_of_getElem? (i := 1001) (by decide +kernel)⟩
theorem lw_p23 : lw_okq (⟨"GapTellingsModel", "isPicture", "(I)Z"⟩, 29) := ⟨⟨by decide +kernel, by decide +kernel⟩, List.mem_of_getElem? (i := 819) (by decide +kernel), List.mem_of_getElem? (i := 1012) (by decide +kernel), List.mem_of_getElem? (i := 1013) (by decide +kernel)⟩
theorem lw_p24 : lw_okq (⟨"GapTellingsModel", "isTelling", "(III)Z"⟩, 29) := ⟨⟨by decide +kernel, by decide +kernel⟩, List.mem_of_getElem? (i := 819) (by decide +kernel), List.mem_of_getElem? (i := 1020) (by decide +kernel), List.mem_of_getElem? (i := 1021) (by decide +kernel)⟩
theorem lw_p25 : lw_okq (⟨"GapTellingsModel", "gainOf", "(III)I"⟩, 29) := ⟨⟨by decide +kernel, by decide +kernel⟩, List.mem_of_getElem? (i := 819) (by decide +kernel), List.mem_of_getElem? (i := 1024) (by decide +kernel), List.mem_of_getElem? (i := 1025) (by decide +kernel)⟩
theorem lw_p26 : lw_okq (⟨"GapTellingsModel", "sum", "()I"⟩, 29) := ⟨⟨by decide +kernel, by decide +kernel⟩, List.mem_of_getElem? (i := 819) (by decide +kernel), List.mem_of_getElem? (i := 1045) (by decide +kernel), List.mem_of_getElem? (i := 1046) (by decide +kernel)⟩
theorem lw_p27 : lw_okq (⟨"GapTellingsModel", "plans", "()I"⟩, 29) := ⟨⟨by decide +kernel, by decide +kernel⟩, List.mem_of_getElem? (i := 819) (by decide +kernel), List.mem_of_getElem? (i := 1053) (by decide +kernel), List.mem_of_getElem? (i := 1054) (by decide +kernel)⟩
theorem lw_p28 : lw_okq (⟨"GapTellingsModel", "fills", "(I)I"⟩, 29) := ⟨⟨by decide +kernel, by decide +kernel⟩, List.mem_of_getElem? (i := 819) (by decide +kernel), List.mem_of_getElem? (i := 1057) (by decide +kernel), List.mem_of_getElem? (i := 1058) (by decide +kernel)⟩
theorem lw_p29 : lw_okq (⟨"GapTellingsModel", "begun", "(IIII)I"⟩, 29) := ⟨⟨by decide +kernel, by decide +kernel⟩, List.mem_of_getElem? (i := 819) (by decide +kernel), List.mem_of_getElem? (i := 1061) (by decide +kernel), List.mem_of_getElem? (i := 1062) (by decide +kernel)⟩
theorem lw_p30 : lw_okq (⟨"GapTellingsModel", "begins", "(II)I"⟩, 29) := ⟨⟨by decide +kernel, by decide +kernel⟩, List.mem_of_getElem? (i := 819) (by decide +kernel), List.mem_of_getElem? (i := 1066) (by decide +kernel), List.mem_of_getElem? (i := 1067) (by decide +kernel)⟩
theorem lw_p31 : lw_okq (⟨"GapTellingsModel", "isTold", "(I)Z"⟩, 29) := ⟨⟨by decide +kernel, by decide +kernel⟩, List.mem_of_getElem? (i := 819) (by decide +kernel), List.mem_of_getElem? (i := 1082) (by decide +kernel), List.mem_of_getElem? (i := 1083) (by decide +kernel)⟩
def lw_privs_2 : List (MethodName × Nat) := [(⟨"GapTellingsModel", "readsPicture", "(I)Z"⟩, 29), (⟨"GapTellingsModel", "readsNeed", "(I)Z"⟩, 29), (⟨"GapTellingsModel", "hears", "()V"⟩, 29), (⟨"GapTellingsModel", "whyNot", "(III)I"⟩, 29), (⟨"GapTellingsModel", "whyByFilm", "(III)I"⟩, 29), (⟨"GapTellingsModel", "wide", "(II)I"⟩, 29), (⟨"GapTellingsModel", "endOf", "(I)I"⟩, 29), (⟨"GapTellingsModel", "isPicture", "(I)Z"⟩, 29), (⟨"GapTellingsModel", "isTelling", "(III)Z"⟩, 29), (⟨"GapTellingsModel", "gainOf", "(III)I"⟩, 29), (⟨"GapTellingsModel", "sum", "()I"⟩, 29), (⟨"GapTellingsModel", "plans", "()I"⟩, 29), (⟨"GapTellingsModel", "fills", "(I)I"⟩, 29), (⟨"GapTellingsModel", "begun", "(IIII)I"⟩, 29), (⟨"GapTellingsModel", "begins", "(II)I"⟩, 29), (⟨"GapTellingsModel", "isTold", "(I)Z"⟩, 29)]
theorem lw_r2 : ∀ q ∈ lw_privs_2, lw_okq q := List.forall_mem_cons.mpr ⟨lw_p16, List.forall_mem_cons.mpr ⟨lw_p17, List.forall_mem_cons.mpr ⟨lw_p18, List.forall_mem_cons.mpr ⟨lw_p19, List.forall_mem_cons.mpr ⟨lw_p20, List.forall_mem_cons.mpr ⟨lw_p21, List.forall_mem_cons.mpr ⟨lw_p22, List.forall_mem_cons.mpr ⟨lw_p23, List.forall_mem_cons.mpr ⟨lw_p24, List.forall_mem_cons.mpr ⟨lw_p25, List.forall_mem_cons.mpr ⟨lw_p26, List.forall_mem_cons.mpr ⟨lw_p27, List.forall_mem_cons.mpr ⟨lw_p28, List.forall_mem_cons.mpr ⟨lw_p29, List.forall_mem_cons.mpr ⟨lw_p30, List.forall_mem_cons.mpr ⟨lw_p31, fun _ h => absurd h List.not_mem_nil⟩⟩⟩⟩⟩⟩⟩⟩⟩⟩⟩⟩⟩⟩⟩⟩
theorem lw_p32 : lw_okq (⟨"GapTellingsModel", "greeds", "()I"⟩, 29) := ⟨⟨by decide +kernel, by decide +kernel⟩, List.mem_of_getElem? (i := 819) (by decide +kernel), List.mem_of_getElem? (i := 1114) (by decide +kernel), List.mem_of_getElem? (i := 1115) (by decide +kernel)⟩
theorem lw_p33 : lw_okq (⟨"GapTellingsModel", "worthiest", "()I"⟩, 29) := ⟨⟨by decide +kernel, by decide +kernel⟩, List.mem_of_getElem? (i := 819) (by decide +kernel), List.mem_of_getElem? (i := 1118) (by decide +kernel), List.mem_of_getElem? (i := 1119) (by decide +kernel)⟩
def lw_privs_3 : List (MethodName × Nat) := [(⟨"GapTellingsModel", "greeds", "()I"⟩, 29), (⟨"GapTellingsModel", "worthiest", "()I"⟩, 29)]
theorem lw_r3 : ∀ q ∈ lw_privs_3, lw_okq q := List.forall_mem_cons.mpr ⟨lw_p32, List.forall_mem_cons.mpr ⟨lw_p33, fun _ h => absurd h List.not_mem_nil⟩⟩
def lw_privs : List (MethodName × Nat) := lw_privs_1 ++ (lw_privs_2 ++ (lw_privs_3))
def lw_tbl : List Cond := k2_sels lw_privs ++ tables_1
theorem lw_privs_ok : ∀ q ∈ lw_privs, lw_okq q := by
  show ∀ q ∈ lw_privs_1 ++ (lw_privs_2 ++ (lw_privs_3)), lw_okq q
  exact List.forall_mem_append.mpr ⟨lw_r1, List.forall_mem_append.mpr ⟨lw_r2, lw_r3⟩⟩
/-! ===== BEGIN words of one list among another's, by their places ===== -/
theorem goodIn_r {big : List Cond} (ws : List Cond) (ps : List Nat) (hp : ws = ps.filterMap (fun i => big[i]?)) (h : ws.all goodWord = true) : GoodIn big ws := by
  intro w hw
  have h1 := List.all_eq_true.mp h w hw
  rw [hp] at hw
  obtain ⟨i, -, hi⟩ := List.mem_filterMap.mp hw
  have hm : w ∈ big := by first | exact List.mem_of_getElem? hi | exact List.getElem?_mem hi
  exact ⟨hm, good_of_word h1⟩
theorem goodIn_app {big a b : List Cond} (ha : GoodIn big a) (hb : GoodIn big b) : GoodIn big (a ++ b) := fun w h => (List.mem_append.mp h).elim (ha w) (hb w)
theorem goodIn_ca {big a b : List Cond} {c : Cond} (ha : GoodIn big (c :: a)) (hb : GoodIn big b) : GoodIn big (c :: (a ++ b)) := fun w h => (List.mem_cons.mp h).elim (fun e => ha w (List.mem_cons.mpr (Or.inl e))) (fun h => (List.mem_append.mp h).elim (fun h => ha w (List.mem_cons.mpr (Or.inr h))) (hb w))
theorem goodIn_sub {big ws : List Cond} (hm : ∀ w ∈ ws, w ∈ big) (h : ws.all goodWord = true) : GoodIn big ws := fun w hw => ⟨hm w hw, good_of_word (List.all_eq_true.mp h w hw)⟩
/-! ===== END ===== -/

/-! ===== BEGIN printed: names, fields, word lists, decode rows ===== -/
def RX0 : String := "GapTellings$BestFinder"
def TX0 : u_T := fun k => match k with
  | 0 => ("GapTellings$BestFinder", "film", "LGapTellings$Film;", true)
  | _ => ("GapTellings$BestFinder", "table", "[I", true)
def tyX0 : Nat → FieldType := fun k => match k with
  | 0 => .object "GapTellings$Film"
  | _ => .array .int
abbrev wsX00 : List Cond := u_ws RX0 TX0 2
theorem nmX0 : ∀ a, a < 2 → ∀ b, b < 2 → a ≠ b → (TX0 a).2.1 ≠ (TX0 b).2.1 := by decide +kernel
theorem tyX0_ok : ∀ k, k < 2 → parseFieldDescriptor (TX0 k).2.2.1 = some (tyX0 k) := by decide +kernel
abbrev cX0_init : ByteArray := prog_2_method_1_code
def yX0_init : MethodName := ⟨RX0, "<init>", "(LGapTellings$Film;)V"⟩
abbrev cX0_solve : ByteArray := prog_2_method_2_code
def yX0_solve : MethodName := ⟨RX0, "solve", "(LGapTellings$Track;II)I"⟩
abbrev cX0_openAhead : ByteArray := prog_2_method_3_code
def yX0_openAhead : MethodName := ⟨RX0, "openAhead", "(II)I"⟩
abbrev cX0_tryPicture : ByteArray := prog_2_method_4_code
def yX0_tryPicture : MethodName := ⟨RX0, "tryPicture", "(LGapTellings$Track;IIII)V"⟩
abbrev cX0_raiseRow : ByteArray := prog_2_method_5_code
def yX0_raiseRow : MethodName := ⟨RX0, "raiseRow", "(IIIII)V"⟩
abbrev cX0_nextFree : ByteArray := prog_2_method_6_code
def yX0_nextFree : MethodName := ⟨RX0, "nextFree", "(IIII)I"⟩
abbrev cX0_neededSet : ByteArray := prog_2_method_7_code
def yX0_neededSet : MethodName := ⟨RX0, "neededSet", "(I)I"⟩
abbrev cX0_trace : ByteArray := prog_2_method_8_code
def yX0_trace : MethodName := ⟨RX0, "trace", "(LGapTellings$Track;ILGapTellings$Plan;)V"⟩
abbrev cX0_putFirst : ByteArray := prog_2_method_9_code
def yX0_putFirst : MethodName := ⟨RX0, "putFirst", "(LGapTellings$Track;ILGapTellings$Plan;II)I"⟩
def RX1 : String := "GapTellings$Film"
def TX1 : u_T := fun k => match k with
  | 0 => ("GapTellings$Film", "ticks", "I", false)
  | 1 => ("GapTellings$Film", "breath", "I", false)
  | 2 => ("GapTellings$Film", "rates", "[I", true)
  | 3 => ("GapTellings$Film", "soundCount", "I", false)
  | 4 => ("GapTellings$Film", "kinds", "[I", true)
  | 5 => ("GapTellings$Film", "begins", "[I", true)
  | 6 => ("GapTellings$Film", "ends", "[I", true)
  | 7 => ("GapTellings$Film", "pictureCount", "I", false)
  | _ => ("GapTellings$Film", "pictures", "[LGapTellings$Picture;", true)
def tyX1 : Nat → FieldType := fun k => match k with
  | 0 => .int
  | 1 => .int
  | 2 => .array .int
  | 3 => .int
  | 4 => .array .int
  | 5 => .array .int
  | 6 => .array .int
  | 7 => .int
  | _ => .array (.object "GapTellings$Picture")
abbrev wsX10 : List Cond := u_ws RX1 TX1 9
theorem nmX1 : ∀ a, a < 9 → ∀ b, b < 9 → a ≠ b → (TX1 a).2.1 ≠ (TX1 b).2.1 := by decide +kernel
theorem tyX1_ok : ∀ k, k < 9 → parseFieldDescriptor (TX1 k).2.2.1 = some (tyX1 k) := by decide +kernel
abbrev cX1_init : ByteArray := prog_3_method_1_code
def yX1_init : MethodName := ⟨RX1, "<init>", "()V"⟩
abbrev cX1_startAnew : ByteArray := prog_3_method_2_code
def yX1_startAnew : MethodName := ⟨RX1, "startAnew", "()V"⟩
abbrev cX1_addSound : ByteArray := prog_3_method_3_code
def yX1_addSound : MethodName := ⟨RX1, "addSound", "(III)V"⟩
abbrev cX1_dropSound : ByteArray := prog_3_method_4_code
def yX1_dropSound : MethodName := ⟨RX1, "dropSound", "(I)V"⟩
abbrev cX1_allPictures : ByteArray := prog_3_method_5_code
def yX1_allPictures : MethodName := ⟨RX1, "allPictures", "()I"⟩
def RX2 : String := "GapTellings$GreedyFinder"
def TX2 : u_T := fun k => match k with
  | 0 => ("GapTellings$GreedyFinder", "film", "LGapTellings$Film;", true)
  | 1 => ("GapTellings$GreedyFinder", "track", "LGapTellings$Track;", true)
  | 2 => ("GapTellings$GreedyFinder", "plan", "LGapTellings$Plan;", true)
  | 3 => ("GapTellings$GreedyFinder", "known", "Z", false)
  | 4 => ("GapTellings$GreedyFinder", "passed", "I", false)
  | 5 => ("GapTellings$GreedyFinder", "foundPicture", "I", false)
  | 6 => ("GapTellings$GreedyFinder", "foundVersion", "I", false)
  | 7 => ("GapTellings$GreedyFinder", "foundTick", "I", false)
  | 8 => ("GapTellings$GreedyFinder", "foundWorth", "I", false)
  | _ => ("GapTellings$GreedyFinder", "foundGain", "I", false)
def tyX2 : Nat → FieldType := fun k => match k with
  | 0 => .object "GapTellings$Film"
  | 1 => .object "GapTellings$Track"
  | 2 => .object "GapTellings$Plan"
  | 3 => .boolean
  | 4 => .int
  | 5 => .int
  | 6 => .int
  | 7 => .int
  | 8 => .int
  | _ => .int
abbrev wsX20 : List Cond := u_ws RX2 TX2 10
theorem nmX2 : ∀ a, a < 10 → ∀ b, b < 10 → a ≠ b → (TX2 a).2.1 ≠ (TX2 b).2.1 := by decide +kernel
theorem tyX2_ok : ∀ k, k < 10 → parseFieldDescriptor (TX2 k).2.2.1 = some (tyX2 k) := by decide +kernel
abbrev cX2_init : ByteArray := prog_4_method_1_code
def yX2_init : MethodName := ⟨RX2, "<init>", "(LGapTellings$Film;LGapTellings$Track;)V"⟩
abbrev cX2_fillPlan : ByteArray := prog_4_method_2_code
def yX2_fillPlan : MethodName := ⟨RX2, "fillPlan", "()V"⟩
abbrev cX2_versionBit : ByteArray := prog_4_method_3_code
def yX2_versionBit : MethodName := ⟨RX2, "versionBit", "(II)I"⟩
abbrev cX2_findWorthiest : ByteArray := prog_4_method_4_code
def yX2_findWorthiest : MethodName := ⟨RX2, "findWorthiest", "()V"⟩
abbrev cX2_lookAtTicks : ByteArray := prog_4_method_5_code
def yX2_lookAtTicks : MethodName := ⟨RX2, "lookAtTicks", "(II)V"⟩
abbrev cX2_offer : ByteArray := prog_4_method_6_code
def yX2_offer : MethodName := ⟨RX2, "offer", "(III)V"⟩
def RX3 : String := "GapTellings$Picture"
def TX3 : u_T := fun k => match k with
  | 0 => ("GapTellings$Picture", "tick", "I", false)
  | 1 => ("GapTellings$Picture", "early", "I", false)
  | 2 => ("GapTellings$Picture", "late", "I", false)
  | 3 => ("GapTellings$Picture", "needs", "I", false)
  | 4 => ("GapTellings$Picture", "versionCount", "I", false)
  | 5 => ("GapTellings$Picture", "lengths", "[I", true)
  | _ => ("GapTellings$Picture", "worths", "[I", true)
def tyX3 : Nat → FieldType := fun k => match k with
  | 0 => .int
  | 1 => .int
  | 2 => .int
  | 3 => .int
  | 4 => .int
  | 5 => .array .int
  | _ => .array .int
abbrev wsX30 : List Cond := u_ws RX3 TX3 7
theorem nmX3 : ∀ a, a < 7 → ∀ b, b < 7 → a ≠ b → (TX3 a).2.1 ≠ (TX3 b).2.1 := by decide +kernel
theorem tyX3_ok : ∀ k, k < 7 → parseFieldDescriptor (TX3 k).2.2.1 = some (tyX3 k) := by decide +kernel
abbrev cX3_init : ByteArray := prog_5_method_1_code
def yX3_init : MethodName := ⟨RX3, "<init>", "()V"⟩
abbrev cX3_start : ByteArray := prog_5_method_2_code
def yX3_start : MethodName := ⟨RX3, "start", "(III)V"⟩
abbrev cX3_isNear : ByteArray := prog_5_method_3_code
def yX3_isNear : MethodName := ⟨RX3, "isNear", "(I)Z"⟩
abbrev cX3_addVersion : ByteArray := prog_5_method_4_code
def yX3_addVersion : MethodName := ⟨RX3, "addVersion", "(II)V"⟩
def RX4 : String := "GapTellings$Plan"
def TX4 : u_T := fun k => match k with
  | 0 => ("GapTellings$Plan", "film", "LGapTellings$Film;", true)
  | 1 => ("GapTellings$Plan", "versions", "[I", true)
  | _ => ("GapTellings$Plan", "starts", "[I", true)
def tyX4 : Nat → FieldType := fun k => match k with
  | 0 => .object "GapTellings$Film"
  | 1 => .array .int
  | _ => .array .int
abbrev wsX40 : List Cond := u_ws RX4 TX4 3
theorem nmX4 : ∀ a, a < 3 → ∀ b, b < 3 → a ≠ b → (TX4 a).2.1 ≠ (TX4 b).2.1 := by decide +kernel
theorem tyX4_ok : ∀ k, k < 3 → parseFieldDescriptor (TX4 k).2.2.1 = some (tyX4 k) := by decide +kernel
abbrev cX4_init : ByteArray := prog_6_method_1_code
def yX4_init : MethodName := ⟨RX4, "<init>", "(LGapTellings$Film;)V"⟩
abbrev cX4_clear : ByteArray := prog_6_method_2_code
def yX4_clear : MethodName := ⟨RX4, "clear", "()V"⟩
abbrev cX4_copyFrom : ByteArray := prog_6_method_3_code
def yX4_copyFrom : MethodName := ⟨RX4, "copyFrom", "(LGapTellings$Plan;)V"⟩
abbrev cX4_has : ByteArray := prog_6_method_4_code
def yX4_has : MethodName := ⟨RX4, "has", "(I)Z"⟩
abbrev cX4_put : ByteArray := prog_6_method_5_code
def yX4_put : MethodName := ⟨RX4, "put", "(III)V"⟩
abbrev cX4_drop : ByteArray := prog_6_method_6_code
def yX4_drop : MethodName := ⟨RX4, "drop", "(I)V"⟩
abbrev cX4_size : ByteArray := prog_6_method_7_code
def yX4_size : MethodName := ⟨RX4, "size", "()I"⟩
abbrev cX4_endOf : ByteArray := prog_6_method_8_code
def yX4_endOf : MethodName := ⟨RX4, "endOf", "(I)I"⟩
abbrev cX4_whyNot : ByteArray := prog_6_method_9_code
def yX4_whyNot : MethodName := ⟨RX4, "whyNot", "(LGapTellings$Track;III)I"⟩
abbrev cX4_whyNotBesideOthers : ByteArray := prog_6_method_10_code
def yX4_whyNotBesideOthers : MethodName := ⟨RX4, "whyNotBesideOthers", "(III)I"⟩
abbrev cX4_dropFaulty : ByteArray := prog_6_method_11_code
def yX4_dropFaulty : MethodName := ⟨RX4, "dropFaulty", "(LGapTellings$Track;)V"⟩
abbrev cX4_lowestFaulty : ByteArray := prog_6_method_12_code
def yX4_lowestFaulty : MethodName := ⟨RX4, "lowestFaulty", "(LGapTellings$Track;)I"⟩
abbrev cX4_dropWithNeeders : ByteArray := prog_6_method_13_code
def yX4_dropWithNeeders : MethodName := ⟨RX4, "dropWithNeeders", "(I)I"⟩
abbrev cX4_valueOn : ByteArray := prog_6_method_14_code
def yX4_valueOn : MethodName := ⟨RX4, "valueOn", "(LGapTellings$Track;)I"⟩
abbrev cX4_tellsAt : ByteArray := prog_6_method_15_code
def yX4_tellsAt : MethodName := ⟨RX4, "tellsAt", "(I)Z"⟩
abbrev cX4_ticksTold : ByteArray := prog_6_method_16_code
def yX4_ticksTold : MethodName := ⟨RX4, "ticksTold", "(II)I"⟩
def RX5 : String := "GapTellings$TextReader"
def TX5 : u_T := fun k => match k with
  | 0 => ("GapTellings$TextReader", "numbers", "[I", true)
  | 1 => ("GapTellings$TextReader", "figures", "[I", true)
  | 2 => ("GapTellings$TextReader", "found", "I", false)
  | _ => ("GapTellings$TextReader", "at", "I", false)
def tyX5 : Nat → FieldType := fun k => match k with
  | 0 => .array .int
  | 1 => .array .int
  | 2 => .int
  | _ => .int
abbrev wsX50 : List Cond := u_ws RX5 TX5 4
theorem nmX5 : ∀ a, a < 4 → ∀ b, b < 4 → a ≠ b → (TX5 a).2.1 ≠ (TX5 b).2.1 := by decide +kernel
theorem tyX5_ok : ∀ k, k < 4 → parseFieldDescriptor (TX5 k).2.2.1 = some (tyX5 k) := by decide +kernel
abbrev cX5_init : ByteArray := prog_7_method_1_code
def yX5_init : MethodName := ⟨RX5, "<init>", "()V"⟩
abbrev cX5_read : ByteArray := prog_7_method_2_code
def yX5_read : MethodName := ⟨RX5, "read", "([CILGapTellings$Film;)I"⟩
abbrev cX5_readNumbers : ByteArray := prog_7_method_3_code
def yX5_readNumbers : MethodName := ⟨RX5, "readNumbers", "([CI)Z"⟩
abbrev cX5_readNumber : ByteArray := prog_7_method_4_code
def yX5_readNumber : MethodName := ⟨RX5, "readNumber", "([CII)V"⟩
abbrev cX5_tellItem : ByteArray := prog_7_method_5_code
def yX5_tellItem : MethodName := ⟨RX5, "tellItem", "(CLGapTellings$Film;)Z"⟩
abbrev cX5_tellFilm : ByteArray := prog_7_method_6_code
def yX5_tellFilm : MethodName := ⟨RX5, "tellFilm", "(LGapTellings$Film;)Z"⟩
abbrev cX5_tellSound : ByteArray := prog_7_method_7_code
def yX5_tellSound : MethodName := ⟨RX5, "tellSound", "(LGapTellings$Film;I)Z"⟩
abbrev cX5_tellPicture : ByteArray := prog_7_method_8_code
def yX5_tellPicture : MethodName := ⟨RX5, "tellPicture", "(LGapTellings$Film;)Z"⟩
abbrev cX5_isPicture : ByteArray := prog_7_method_9_code
def yX5_isPicture : MethodName := ⟨RX5, "isPicture", "(LGapTellings$Film;)Z"⟩
abbrev cX5_allShort : ByteArray := prog_7_method_10_code
def yX5_allShort : MethodName := ⟨RX5, "allShort", "()Z"⟩
abbrev cX5_tellNeed : ByteArray := prog_7_method_11_code
def yX5_tellNeed : MethodName := ⟨RX5, "tellNeed", "(LGapTellings$Film;)Z"⟩
abbrev cX5_tellBreath : ByteArray := prog_7_method_12_code
def yX5_tellBreath : MethodName := ⟨RX5, "tellBreath", "(LGapTellings$Film;)Z"⟩
def RX6 : String := "GapTellings$Track"
def TX6 : u_T := fun k => match k with
  | 0 => ("GapTellings$Track", "film", "LGapTellings$Film;", true)
  | 1 => ("GapTellings$Track", "marks", "[I", true)
  | 2 => ("GapTellings$Track", "speechBefore", "[I", true)
  | _ => ("GapTellings$Track", "costBefore", "[I", true)
def tyX6 : Nat → FieldType := fun k => match k with
  | 0 => .object "GapTellings$Film"
  | 1 => .array .int
  | 2 => .array .int
  | _ => .array .int
abbrev wsX60 : List Cond := u_ws RX6 TX6 4
theorem nmX6 : ∀ a, a < 4 → ∀ b, b < 4 → a ≠ b → (TX6 a).2.1 ≠ (TX6 b).2.1 := by decide +kernel
theorem tyX6_ok : ∀ k, k < 4 → parseFieldDescriptor (TX6 k).2.2.1 = some (tyX6 k) := by decide +kernel
abbrev cX6_init : ByteArray := prog_8_method_1_code
def yX6_init : MethodName := ⟨RX6, "<init>", "(LGapTellings$Film;)V"⟩
abbrev cX6_listen : ByteArray := prog_8_method_2_code
def yX6_listen : MethodName := ⟨RX6, "listen", "(II)V"⟩
abbrev cX6_hasSpeech : ByteArray := prog_8_method_3_code
def yX6_hasSpeech : MethodName := ⟨RX6, "hasSpeech", "(I)Z"⟩
abbrev cX6_soundCost : ByteArray := prog_8_method_4_code
def yX6_soundCost : MethodName := ⟨RX6, "soundCost", "(I)I"⟩
abbrev cX6_ownWhyNot : ByteArray := prog_8_method_5_code
def yX6_ownWhyNot : MethodName := ⟨RX6, "ownWhyNot", "(III)I"⟩
abbrev cX6_gainOf : ByteArray := prog_8_method_6_code
def yX6_gainOf : MethodName := ⟨RX6, "gainOf", "(III)I"⟩
abbrev cX6_ticksOpen : ByteArray := prog_8_method_7_code
def yX6_ticksOpen : MethodName := ⟨RX6, "ticksOpen", "(II)I"⟩
abbrev cX6_greatestGain : ByteArray := prog_8_method_8_code
def yX6_greatestGain : MethodName := ⟨RX6, "greatestGain", "(II)I"⟩
abbrev cX6_silenceBeginsAt : ByteArray := prog_8_method_9_code
def yX6_silenceBeginsAt : MethodName := ⟨RX6, "silenceBeginsAt", "(I)Z"⟩
abbrev cX6_silenceCount : ByteArray := prog_8_method_10_code
def yX6_silenceCount : MethodName := ⟨RX6, "silenceCount", "()I"⟩
abbrev cX6_silenceBegin : ByteArray := prog_8_method_11_code
def yX6_silenceBegin : MethodName := ⟨RX6, "silenceBegin", "(I)I"⟩
abbrev cX6_silenceEnd : ByteArray := prog_8_method_12_code
def yX6_silenceEnd : MethodName := ⟨RX6, "silenceEnd", "(I)I"⟩
def RX7 : String := "GapTellings"
def TX7 : u_T := fun k => match k with
  | 0 => ("GapTellings", "text", "[C", true)
  | 1 => ("GapTellings", "textLength", "I", false)
  | 2 => ("GapTellings", "reader", "LGapTellings$TextReader;", true)
  | 3 => ("GapTellings", "draft", "LGapTellings$Film;", true)
  | 4 => ("GapTellings", "film", "LGapTellings$Film;", true)
  | 5 => ("GapTellings", "track", "LGapTellings$Track;", true)
  | 6 => ("GapTellings", "supposed", "LGapTellings$Track;", true)
  | 7 => ("GapTellings", "placed", "LGapTellings$Plan;", true)
  | 8 => ("GapTellings", "bestFinder", "LGapTellings$BestFinder;", true)
  | 9 => ("GapTellings", "bestPlan", "LGapTellings$Plan;", true)
  | 10 => ("GapTellings", "bestValue", "I", false)
  | 11 => ("GapTellings", "bestKnown", "Z", false)
  | _ => ("GapTellings", "greedyFinder", "LGapTellings$GreedyFinder;", true)
def tyX7 : Nat → FieldType := fun k => match k with
  | 0 => .array .char
  | 1 => .int
  | 2 => .object "GapTellings$TextReader"
  | 3 => .object "GapTellings$Film"
  | 4 => .object "GapTellings$Film"
  | 5 => .object "GapTellings$Track"
  | 6 => .object "GapTellings$Track"
  | 7 => .object "GapTellings$Plan"
  | 8 => .object "GapTellings$BestFinder"
  | 9 => .object "GapTellings$Plan"
  | 10 => .int
  | 11 => .boolean
  | _ => .object "GapTellings$GreedyFinder"
abbrev wsX70 : List Cond := u_ws RX7 TX7 13
theorem nmX7 : ∀ a, a < 13 → ∀ b, b < 13 → a ≠ b → (TX7 a).2.1 ≠ (TX7 b).2.1 := by decide +kernel
theorem tyX7_ok : ∀ k, k < 13 → parseFieldDescriptor (TX7 k).2.2.1 = some (tyX7 k) := by decide +kernel
abbrev cX7_init : ByteArray := prog_1_method_1_code
def yX7_init : MethodName := ⟨RX7, "<init>", "()V"⟩
abbrev cX7_write : ByteArray := prog_1_method_2_code
def yX7_write : MethodName := ⟨RX7, "write", "(I)I"⟩
abbrev cX7_wipe : ByteArray := prog_1_method_3_code
def yX7_wipe : MethodName := ⟨RX7, "wipe", "()I"⟩
abbrev cX7_fault : ByteArray := prog_1_method_4_code
def yX7_fault : MethodName := ⟨RX7, "fault", "()I"⟩
abbrev cX7_lay : ByteArray := prog_1_method_5_code
def yX7_lay : MethodName := ⟨RX7, "lay", "()I"⟩
abbrev cX7_rate : ByteArray := prog_1_method_6_code
def yX7_rate : MethodName := ⟨RX7, "rate", "(II)I"⟩
abbrev cX7_breath : ByteArray := prog_1_method_7_code
def yX7_breath : MethodName := ⟨RX7, "breath", "(I)I"⟩
abbrev cX7_sound : ByteArray := prog_1_method_8_code
def yX7_sound : MethodName := ⟨RX7, "sound", "(III)I"⟩
abbrev cX7_hush : ByteArray := prog_1_method_9_code
def yX7_hush : MethodName := ⟨RX7, "hush", "(I)I"⟩
abbrev cX7_version : ByteArray := prog_1_method_10_code
def yX7_version : MethodName := ⟨RX7, "version", "(III)I"⟩
abbrev cX7_place : ByteArray := prog_1_method_11_code
def yX7_place : MethodName := ⟨RX7, "place", "(III)I"⟩
abbrev cX7_off : ByteArray := prog_1_method_12_code
def yX7_off : MethodName := ⟨RX7, "off", "(I)I"⟩
abbrev cX7_why : ByteArray := prog_1_method_13_code
def yX7_why : MethodName := ⟨RX7, "why", "(III)I"⟩
abbrev cX7_gain : ByteArray := prog_1_method_14_code
def yX7_gain : MethodName := ⟨RX7, "gain", "(III)I"⟩
abbrev cX7_value : ByteArray := prog_1_method_15_code
def yX7_value : MethodName := ⟨RX7, "value", "()I"⟩
abbrev cX7_adopt : ByteArray := prog_1_method_16_code
def yX7_adopt : MethodName := ⟨RX7, "adopt", "()I"⟩
abbrev cX7_picture : ByteArray := prog_1_method_17_code
def yX7_picture : MethodName := ⟨RX7, "picture", "(II)I"⟩
abbrev cX7_told : ByteArray := prog_1_method_18_code
def yX7_told : MethodName := ⟨RX7, "told", "(III)I"⟩
abbrev cX7_tick : ByteArray := prog_1_method_19_code
def yX7_tick : MethodName := ⟨RX7, "tick", "(I)I"⟩
abbrev cX7_silence : ByteArray := prog_1_method_20_code
def yX7_silence : MethodName := ⟨RX7, "silence", "(II)I"⟩
abbrev cX7_best : ByteArray := prog_1_method_21_code
def yX7_best : MethodName := ⟨RX7, "best", "()I"⟩
abbrev cX7_bestOf : ByteArray := prog_1_method_22_code
def yX7_bestOf : MethodName := ⟨RX7, "bestOf", "(II)I"⟩
abbrev cX7_bestBy : ByteArray := prog_1_method_23_code
def yX7_bestBy : MethodName := ⟨RX7, "bestBy", "(I)I"⟩
abbrev cX7_bestIf : ByteArray := prog_1_method_24_code
def yX7_bestIf : MethodName := ⟨RX7, "bestIf", "(II)I"⟩
abbrev cX7_bestBreath : ByteArray := prog_1_method_25_code
def yX7_bestBreath : MethodName := ⟨RX7, "bestBreath", "(I)I"⟩
abbrev cX7_greedy : ByteArray := prog_1_method_26_code
def yX7_greedy : MethodName := ⟨RX7, "greedy", "()I"⟩
abbrev cX7_greedyOf : ByteArray := prog_1_method_27_code
def yX7_greedyOf : MethodName := ⟨RX7, "greedyOf", "(II)I"⟩
abbrev cX7_count : ByteArray := prog_1_method_28_code
def yX7_count : MethodName := ⟨RX7, "count", "(I)I"⟩
abbrev cX7_hasPicture : ByteArray := prog_1_method_29_code
def yX7_hasPicture : MethodName := ⟨RX7, "hasPicture", "(I)Z"⟩
abbrev cX7_hasVersion : ByteArray := prog_1_method_30_code
def yX7_hasVersion : MethodName := ⟨RX7, "hasVersion", "(II)Z"⟩
abbrev cX7_hasTick : ByteArray := prog_1_method_31_code
def yX7_hasTick : MethodName := ⟨RX7, "hasTick", "(I)Z"⟩
abbrev cX7_hasSound : ByteArray := prog_1_method_32_code
def yX7_hasSound : MethodName := ⟨RX7, "hasSound", "(I)Z"⟩
abbrev cX7_layText : ByteArray := prog_1_method_33_code
def yX7_layText : MethodName := ⟨RX7, "layText", "()V"⟩
abbrev cX7_filmChanged : ByteArray := prog_1_method_34_code
def yX7_filmChanged : MethodName := ⟨RX7, "filmChanged", "()V"⟩
abbrev cX7_findBest : ByteArray := prog_1_method_35_code
def yX7_findBest : MethodName := ⟨RX7, "findBest", "()V"⟩
abbrev cX7_ticksOpenNow : ByteArray := prog_1_method_36_code
def yX7_ticksOpenNow : MethodName := ⟨RX7, "ticksOpenNow", "(II)I"⟩
def RX8 : String := "GapTellingsModel"
def TX8 : u_T := fun k => match k with
  | 0 => ("GapTellingsModel", "length", "I", false)
  | 1 => ("GapTellingsModel", "text", "[I", true)
  | 2 => ("GapTellingsModel", "ticks", "I", false)
  | 3 => ("GapTellingsModel", "breath", "I", false)
  | 4 => ("GapTellingsModel", "sounds", "I", false)
  | 5 => ("GapTellingsModel", "sound", "[I", true)
  | 6 => ("GapTellingsModel", "pictures", "I", false)
  | 7 => ("GapTellingsModel", "picture", "[I", true)
  | 8 => ("GapTellingsModel", "rates", "[I", true)
  | 9 => ("GapTellingsModel", "readTicks", "I", false)
  | 10 => ("GapTellingsModel", "readBreath", "I", false)
  | 11 => ("GapTellingsModel", "readSounds", "I", false)
  | 12 => ("GapTellingsModel", "readSound", "[I", true)
  | 13 => ("GapTellingsModel", "readPictures", "I", false)
  | 14 => ("GapTellingsModel", "readPicture", "[I", true)
  | 15 => ("GapTellingsModel", "versions", "[I", true)
  | 16 => ("GapTellingsModel", "places", "[I", true)
  | 17 => ("GapTellingsModel", "bestVersions", "[I", true)
  | 18 => ("GapTellingsModel", "bestPlaces", "[I", true)
  | 19 => ("GapTellingsModel", "handVersions", "[I", true)
  | 20 => ("GapTellingsModel", "handPlaces", "[I", true)
  | 21 => ("GapTellingsModel", "passed", "[I", true)
  | 22 => ("GapTellingsModel", "heard", "[I", true)
  | 23 => ("GapTellingsModel", "most", "[I", true)
  | 24 => ("GapTellingsModel", "firstSounds", "[I", true)
  | 25 => ("GapTellingsModel", "firstPictures", "[I", true)
  | 26 => ("GapTellingsModel", "lastPictures", "[I", true)
  | 27 => ("GapTellingsModel", "value", "I", false)
  | _ => ("GapTellingsModel", "ends", "I", false)
def tyX8 : Nat → FieldType := fun k => match k with
  | 0 => .int
  | 1 => .array .int
  | 2 => .int
  | 3 => .int
  | 4 => .int
  | 5 => .array .int
  | 6 => .int
  | 7 => .array .int
  | 8 => .array .int
  | 9 => .int
  | 10 => .int
  | 11 => .int
  | 12 => .array .int
  | 13 => .int
  | 14 => .array .int
  | 15 => .array .int
  | 16 => .array .int
  | 17 => .array .int
  | 18 => .array .int
  | 19 => .array .int
  | 20 => .array .int
  | 21 => .array .int
  | 22 => .array .int
  | 23 => .array .int
  | 24 => .array .int
  | 25 => .array .int
  | 26 => .array .int
  | 27 => .int
  | _ => .int
abbrev wsX80 : List Cond := u_ws RX8 TX8 29
theorem nmX8 : ∀ a, a < 29 → ∀ b, b < 29 → a ≠ b → (TX8 a).2.1 ≠ (TX8 b).2.1 := by decide +kernel
theorem tyX8_ok : ∀ k, k < 29 → parseFieldDescriptor (TX8 k).2.2.1 = some (tyX8 k) := by decide +kernel
abbrev cX8_init : ByteArray := prog_10_method_1_code
def yX8_init : MethodName := ⟨RX8, "<init>", "()V"⟩
abbrev cX8_clears : ByteArray := prog_10_method_2_code
def yX8_clears : MethodName := ⟨RX8, "clears", "()V"⟩
abbrev cX8_isIn : ByteArray := prog_10_method_3_code
def yX8_isIn : MethodName := ⟨RX8, "isIn", "(III)Z"⟩
abbrev cX8_letterAt : ByteArray := prog_10_method_4_code
def yX8_letterAt : MethodName := ⟨RX8, "letterAt", "(I)I"⟩
abbrev cX8_isFigure : ByteArray := prog_10_method_5_code
def yX8_isFigure : MethodName := ⟨RX8, "isFigure", "(I)Z"⟩
abbrev cX8_number : ByteArray := prog_10_method_6_code
def yX8_number : MethodName := ⟨RX8, "number", "(IIII)Z"⟩
abbrev cX8_more : ByteArray := prog_10_method_7_code
def yX8_more : MethodName := ⟨RX8, "more", "(III)Z"⟩
abbrev cX8_readsSound : ByteArray := prog_10_method_8_code
def yX8_readsSound : MethodName := ⟨RX8, "readsSound", "(II)Z"⟩
abbrev cX8_readsPicture : ByteArray := prog_10_method_9_code
def yX8_readsPicture : MethodName := ⟨RX8, "readsPicture", "(I)Z"⟩
abbrev cX8_readsNeed : ByteArray := prog_10_method_10_code
def yX8_readsNeed : MethodName := ⟨RX8, "readsNeed", "(I)Z"⟩
abbrev cX8_readsItem : ByteArray := prog_10_method_11_code
def yX8_readsItem : MethodName := ⟨RX8, "readsItem", "(II)Z"⟩
abbrev cX8_reads : ByteArray := prog_10_method_12_code
def yX8_reads : MethodName := ⟨RX8, "reads", "()I"⟩
abbrev cX8_write : ByteArray := prog_10_method_13_code
def yX8_write : MethodName := ⟨RX8, "write", "(I)I"⟩
abbrev cX8_wipe : ByteArray := prog_10_method_14_code
def yX8_wipe : MethodName := ⟨RX8, "wipe", "()I"⟩
abbrev cX8_fault : ByteArray := prog_10_method_15_code
def yX8_fault : MethodName := ⟨RX8, "fault", "()I"⟩
abbrev cX8_lay : ByteArray := prog_10_method_16_code
def yX8_lay : MethodName := ⟨RX8, "lay", "()I"⟩
abbrev cX8_rate : ByteArray := prog_10_method_17_code
def yX8_rate : MethodName := ⟨RX8, "rate", "(II)I"⟩
abbrev cX8_breath : ByteArray := prog_10_method_18_code
def yX8_breath : MethodName := ⟨RX8, "breath", "(I)I"⟩
abbrev cX8_sound : ByteArray := prog_10_method_19_code
def yX8_sound : MethodName := ⟨RX8, "sound", "(III)I"⟩
abbrev cX8_hush : ByteArray := prog_10_method_20_code
def yX8_hush : MethodName := ⟨RX8, "hush", "(I)I"⟩
abbrev cX8_isPicture : ByteArray := prog_10_method_21_code
def yX8_isPicture : MethodName := ⟨RX8, "isPicture", "(I)Z"⟩
abbrev cX8_version : ByteArray := prog_10_method_22_code
def yX8_version : MethodName := ⟨RX8, "version", "(III)I"⟩
abbrev cX8_hears : ByteArray := prog_10_method_23_code
def yX8_hears : MethodName := ⟨RX8, "hears", "()V"⟩
abbrev cX8_wide : ByteArray := prog_10_method_24_code
def yX8_wide : MethodName := ⟨RX8, "wide", "(II)I"⟩
abbrev cX8_whyByFilm : ByteArray := prog_10_method_25_code
def yX8_whyByFilm : MethodName := ⟨RX8, "whyByFilm", "(III)I"⟩
abbrev cX8_endOf : ByteArray := prog_10_method_26_code
def yX8_endOf : MethodName := ⟨RX8, "endOf", "(I)I"⟩
abbrev cX8_whyNot : ByteArray := prog_10_method_27_code
def yX8_whyNot : MethodName := ⟨RX8, "whyNot", "(III)I"⟩
abbrev cX8_gainOf : ByteArray := prog_10_method_28_code
def yX8_gainOf : MethodName := ⟨RX8, "gainOf", "(III)I"⟩
abbrev cX8_isTelling : ByteArray := prog_10_method_29_code
def yX8_isTelling : MethodName := ⟨RX8, "isTelling", "(III)Z"⟩
abbrev cX8_place : ByteArray := prog_10_method_30_code
def yX8_place : MethodName := ⟨RX8, "place", "(III)I"⟩
abbrev cX8_off : ByteArray := prog_10_method_31_code
def yX8_off : MethodName := ⟨RX8, "off", "(I)I"⟩
abbrev cX8_why : ByteArray := prog_10_method_32_code
def yX8_why : MethodName := ⟨RX8, "why", "(III)I"⟩
abbrev cX8_gain : ByteArray := prog_10_method_33_code
def yX8_gain : MethodName := ⟨RX8, "gain", "(III)I"⟩
abbrev cX8_sum : ByteArray := prog_10_method_34_code
def yX8_sum : MethodName := ⟨RX8, "sum", "()I"⟩
abbrev cX8_value : ByteArray := prog_10_method_35_code
def yX8_value : MethodName := ⟨RX8, "value", "()I"⟩
abbrev cX8_adopt : ByteArray := prog_10_method_36_code
def yX8_adopt : MethodName := ⟨RX8, "adopt", "()I"⟩
abbrev cX8_picture : ByteArray := prog_10_method_37_code
def yX8_picture : MethodName := ⟨RX8, "picture", "(II)I"⟩
abbrev cX8_told : ByteArray := prog_10_method_38_code
def yX8_told : MethodName := ⟨RX8, "told", "(III)I"⟩
abbrev cX8_isTold : ByteArray := prog_10_method_39_code
def yX8_isTold : MethodName := ⟨RX8, "isTold", "(I)Z"⟩
abbrev cX8_tick : ByteArray := prog_10_method_40_code
def yX8_tick : MethodName := ⟨RX8, "tick", "(I)I"⟩
abbrev cX8_silence : ByteArray := prog_10_method_41_code
def yX8_silence : MethodName := ⟨RX8, "silence", "(II)I"⟩
abbrev cX8_begun : ByteArray := prog_10_method_42_code
def yX8_begun : MethodName := ⟨RX8, "begun", "(IIII)I"⟩
abbrev cX8_fills : ByteArray := prog_10_method_43_code
def yX8_fills : MethodName := ⟨RX8, "fills", "(I)I"⟩
abbrev cX8_plans : ByteArray := prog_10_method_44_code
def yX8_plans : MethodName := ⟨RX8, "plans", "()I"⟩
abbrev cX8_begins : ByteArray := prog_10_method_45_code
def yX8_begins : MethodName := ⟨RX8, "begins", "(II)I"⟩
abbrev cX8_best : ByteArray := prog_10_method_46_code
def yX8_best : MethodName := ⟨RX8, "best", "()I"⟩
abbrev cX8_bestOf : ByteArray := prog_10_method_47_code
def yX8_bestOf : MethodName := ⟨RX8, "bestOf", "(II)I"⟩
abbrev cX8_bestBy : ByteArray := prog_10_method_48_code
def yX8_bestBy : MethodName := ⟨RX8, "bestBy", "(I)I"⟩
abbrev cX8_bestIf : ByteArray := prog_10_method_49_code
def yX8_bestIf : MethodName := ⟨RX8, "bestIf", "(II)I"⟩
abbrev cX8_bestBreath : ByteArray := prog_10_method_50_code
def yX8_bestBreath : MethodName := ⟨RX8, "bestBreath", "(I)I"⟩
abbrev cX8_worthiest : ByteArray := prog_10_method_51_code
def yX8_worthiest : MethodName := ⟨RX8, "worthiest", "()I"⟩
abbrev cX8_greeds : ByteArray := prog_10_method_52_code
def yX8_greeds : MethodName := ⟨RX8, "greeds", "()I"⟩
abbrev cX8_greedy : ByteArray := prog_10_method_53_code
def yX8_greedy : MethodName := ⟨RX8, "greedy", "()I"⟩
abbrev cX8_greedyOf : ByteArray := prog_10_method_54_code
def yX8_greedyOf : MethodName := ⟨RX8, "greedyOf", "(II)I"⟩
abbrev cX8_count : ByteArray := prog_10_method_55_code
def yX8_count : MethodName := ⟨RX8, "count", "(I)I"⟩
def RJx145de : String := "java/io/Serializable"
def TJx145de : u_T := fun k => match k with
  | _ => ("", "", "", false)
def tyJx145de : Nat → FieldType := fun k => match k with
  | _ => .int
abbrev wsJx145de0 : List Cond := u_ws RJx145de TJx145de 0
theorem nmJx145de : ∀ a, a < 0 → ∀ b, b < 0 → a ≠ b → (TJx145de a).2.1 ≠ (TJx145de b).2.1 := by decide +kernel
theorem tyJx145de_ok : ∀ k, k < 0 → parseFieldDescriptor (TJx145de k).2.2.1 = some (tyJx145de k) := by decide +kernel
def RJx9f9b0 : String := "java/lang/CharSequence"
def TJx9f9b0 : u_T := fun k => match k with
  | _ => ("", "", "", false)
def tyJx9f9b0 : Nat → FieldType := fun k => match k with
  | _ => .int
abbrev wsJx9f9b00 : List Cond := u_ws RJx9f9b0 TJx9f9b0 0
theorem nmJx9f9b0 : ∀ a, a < 0 → ∀ b, b < 0 → a ≠ b → (TJx9f9b0 a).2.1 ≠ (TJx9f9b0 b).2.1 := by decide +kernel
theorem tyJx9f9b0_ok : ∀ k, k < 0 → parseFieldDescriptor (TJx9f9b0 k).2.2.1 = some (tyJx9f9b0 k) := by decide +kernel
def RJ11 : String := "java/lang/Character"
def TJ11 : u_T := fun k => match k with
  | _ => ("", "", "", false)
def tyJ11 : Nat → FieldType := fun k => match k with
  | _ => .int
abbrev wsJ110 : List Cond := u_ws RJ11 TJ11 0
theorem nmJ11 : ∀ a, a < 0 → ∀ b, b < 0 → a ≠ b → (TJ11 a).2.1 ≠ (TJ11 b).2.1 := by decide +kernel
theorem tyJ11_ok : ∀ k, k < 0 → parseFieldDescriptor (TJ11 k).2.2.1 = some (tyJ11 k) := by decide +kernel
abbrev cJ11_isValidCodePoint_9a6ad : ByteArray := prog_11_method_11_code
def yJ11_isValidCodePoint_9a6ad : MethodName := ⟨RJ11, "isValidCodePoint", "(I)Z"⟩
abbrev cJ11_highSurrogate_5068e : ByteArray := prog_11_method_28_code
def yJ11_highSurrogate_5068e : MethodName := ⟨RJ11, "highSurrogate", "(I)C"⟩
abbrev cJ11_lowSurrogate_5068e : ByteArray := prog_11_method_29_code
def yJ11_lowSurrogate_5068e : MethodName := ⟨RJ11, "lowSurrogate", "(I)C"⟩
def RJxb160c : String := "java/lang/Comparable"
def TJxb160c : u_T := fun k => match k with
  | _ => ("", "", "", false)
def tyJxb160c : Nat → FieldType := fun k => match k with
  | _ => .int
abbrev wsJxb160c0 : List Cond := u_ws RJxb160c TJxb160c 0
theorem nmJxb160c : ∀ a, a < 0 → ∀ b, b < 0 → a ≠ b → (TJxb160c a).2.1 ≠ (TJxb160c b).2.1 := by decide +kernel
theorem tyJxb160c_ok : ∀ k, k < 0 → parseFieldDescriptor (TJxb160c k).2.2.1 = some (tyJxb160c k) := by decide +kernel
def RJ6 : String := "java/lang/Integer"
def TJ6 : u_T := fun k => match k with
  | _ => ("", "", "", false)
def tyJ6 : Nat → FieldType := fun k => match k with
  | _ => .int
abbrev wsJ60 : List Cond := u_ws RJ6 TJ6 0
theorem nmJ6 : ∀ a, a < 0 → ∀ b, b < 0 → a ≠ b → (TJ6 a).2.1 ≠ (TJ6 b).2.1 := by decide +kernel
theorem tyJ6_ok : ∀ k, k < 0 → parseFieldDescriptor (TJ6 k).2.2.1 = some (tyJ6 k) := by decide +kernel
abbrev cJ6_bitCount_0f7a4 : ByteArray := prog_12_method_49_code
def yJ6_bitCount_0f7a4 : MethodName := ⟨RJ6, "bitCount", "(I)I"⟩
def RJ9 : String := "java/lang/Math"
def TJ9 : u_T := fun k => match k with
  | _ => ("", "", "", false)
def tyJ9 : Nat → FieldType := fun k => match k with
  | _ => .int
abbrev wsJ90 : List Cond := u_ws RJ9 TJ9 0
theorem nmJ9 : ∀ a, a < 0 → ∀ b, b < 0 → a ≠ b → (TJ9 a).2.1 ≠ (TJ9 b).2.1 := by decide +kernel
theorem tyJ9_ok : ∀ k, k < 0 → parseFieldDescriptor (TJ9 k).2.2.1 = some (tyJ9 k) := by decide +kernel
abbrev cJ9_max_7cf53 : ByteArray := prog_13_method_65_code
def yJ9_max_7cf53 : MethodName := ⟨RJ9, "max", "(II)I"⟩
abbrev cJ9_min_7cf53 : ByteArray := prog_13_method_69_code
def yJ9_min_7cf53 : MethodName := ⟨RJ9, "min", "(II)I"⟩
def RJ0 : String := "java/lang/String"
def TJ0 : u_T := fun k => match k with
  | _ => ("", "", "", false)
def tyJ0 : Nat → FieldType := fun k => match k with
  | _ => .int
abbrev wsJ00 : List Cond := u_ws RJ0 TJ0 0
theorem nmJ0 : ∀ a, a < 0 → ∀ b, b < 0 → a ≠ b → (TJ0 a).2.1 ≠ (TJ0 b).2.1 := by decide +kernel
theorem tyJ0_ok : ∀ k, k < 0 → parseFieldDescriptor (TJ0 k).2.2.1 = some (tyJ0 k) := by decide +kernel
abbrev cJ0_length_8abf5 : ByteArray := prog_14_method_54_code
def yJ0_length_8abf5 : MethodName := ⟨RJ0, "length", "()I"⟩
abbrev cJ0_charAt_5068e : ByteArray := prog_14_method_56_code
def yJ0_charAt_5068e : MethodName := ⟨RJ0, "charAt", "(I)C"⟩
abbrev cJ0_indexOf_0f7a4 : ByteArray := prog_14_method_79_code
def yJ0_indexOf_0f7a4 : MethodName := ⟨RJ0, "indexOf", "(I)I"⟩
abbrev cJ0_indexOf_7cf53 : ByteArray := prog_14_method_80_code
def yJ0_indexOf_7cf53 : MethodName := ⟨RJ0, "indexOf", "(II)I"⟩
abbrev cJ0_coder_7d493 : ByteArray := prog_14_method_152_code
def yJ0_coder_7d493 : MethodName := ⟨RJ0, "coder", "()B"⟩
abbrev cJ0_isLatin1_aae02 : ByteArray := prog_14_method_154_code
def yJ0_isLatin1_aae02 : MethodName := ⟨RJ0, "isLatin1", "()Z"⟩
abbrev cJ0_checkIndex_df160 : ByteArray := prog_14_method_155_code
def yJ0_checkIndex_df160 : MethodName := ⟨RJ0, "checkIndex", "(II)V"⟩
abbrev cJ0_checkBoundsBeginEnd_23922 : ByteArray := prog_14_method_158_code
def yJ0_checkBoundsBeginEnd_23922 : MethodName := ⟨RJ0, "checkBoundsBeginEnd", "(III)V"⟩
def RJ1 : String := "java/lang/StringLatin1"
def TJ1 : u_T := fun k => match k with
  | _ => ("", "", "", false)
def tyJ1 : Nat → FieldType := fun k => match k with
  | _ => .int
abbrev wsJ10 : List Cond := u_ws RJ1 TJ1 0
theorem nmJ1 : ∀ a, a < 0 → ∀ b, b < 0 → a ≠ b → (TJ1 a).2.1 ≠ (TJ1 b).2.1 := by decide +kernel
theorem tyJ1_ok : ∀ k, k < 0 → parseFieldDescriptor (TJ1 k).2.2.1 = some (tyJ1 k) := by decide +kernel
abbrev cJ1_charAt_3b067 : ByteArray := prog_15_method_2_code
def yJ1_charAt_3b067 : MethodName := ⟨RJ1, "charAt", "([BI)C"⟩
abbrev cJ1_canEncode_9a6ad : ByteArray := prog_15_method_4_code
def yJ1_canEncode_9a6ad : MethodName := ⟨RJ1, "canEncode", "(I)Z"⟩
abbrev cJ1_indexOf_4cfef : ByteArray := prog_15_method_22_code
def yJ1_indexOf_4cfef : MethodName := ⟨RJ1, "indexOf", "([BIII)I"⟩
abbrev cJ1_indexOfChar_4cfef : ByteArray := prog_15_method_23_code
def yJ1_indexOfChar_4cfef : MethodName := ⟨RJ1, "indexOfChar", "([BIII)I"⟩
def RJ2 : String := "java/lang/StringUTF16"
def TJ2 : u_T := fun k => match k with
  | _ => ("", "", "", false)
def tyJ2 : Nat → FieldType := fun k => match k with
  | _ => .int
abbrev wsJ20 : List Cond := u_ws RJ2 TJ2 0
theorem nmJ2 : ∀ a, a < 0 → ∀ b, b < 0 → a ≠ b → (TJ2 a).2.1 ≠ (TJ2 b).2.1 := by decide +kernel
theorem tyJ2_ok : ∀ k, k < 0 → parseFieldDescriptor (TJ2 k).2.2.1 = some (tyJ2 k) := by decide +kernel
abbrev cJ2_getChar_3b067 : ByteArray := prog_16_method_5_code
def yJ2_getChar_3b067 : MethodName := ⟨RJ2, "getChar", "([BI)C"⟩
abbrev cJ2_length_9d52b : ByteArray := prog_16_method_6_code
def yJ2_length_9d52b : MethodName := ⟨RJ2, "length", "([B)I"⟩
abbrev cJ2_indexOf_4cfef : ByteArray := prog_16_method_40_code
def yJ2_indexOf_4cfef : MethodName := ⟨RJ2, "indexOf", "([BIII)I"⟩
abbrev cJ2_indexOfChar_4cfef : ByteArray := prog_16_method_47_code
def yJ2_indexOfChar_4cfef : MethodName := ⟨RJ2, "indexOfChar", "([BIII)I"⟩
abbrev cJ2_indexOfCharUnsafe_4cfef : ByteArray := prog_16_method_48_code
def yJ2_indexOfCharUnsafe_4cfef : MethodName := ⟨RJ2, "indexOfCharUnsafe", "([BIII)I"⟩
abbrev cJ2_indexOfSupplementary_4cfef : ByteArray := prog_16_method_49_code
def yJ2_indexOfSupplementary_4cfef : MethodName := ⟨RJ2, "indexOfSupplementary", "([BIII)I"⟩
abbrev cJ2_charAt_3b067 : ByteArray := prog_16_method_83_code
def yJ2_charAt_3b067 : MethodName := ⟨RJ2, "charAt", "([BI)C"⟩
abbrev cJ2_checkIndex_2214a : ByteArray := prog_16_method_91_code
def yJ2_checkIndex_2214a : MethodName := ⟨RJ2, "checkIndex", "(I[B)V"⟩
abbrev cJ2_checkBoundsBeginEnd_d044e : ByteArray := prog_16_method_93_code
def yJ2_checkBoundsBeginEnd_d044e : MethodName := ⟨RJ2, "checkBoundsBeginEnd", "(II[B)V"⟩
def RJ10 : String := "java/lang/System"
def TJ10 : u_T := fun k => match k with
  | _ => ("", "", "", false)
def tyJ10 : Nat → FieldType := fun k => match k with
  | _ => .int
abbrev wsJ100 : List Cond := u_ws RJ10 TJ10 0
theorem nmJ10 : ∀ a, a < 0 → ∀ b, b < 0 → a ≠ b → (TJ10 a).2.1 ≠ (TJ10 b).2.1 := by decide +kernel
theorem tyJ10_ok : ∀ k, k < 0 → parseFieldDescriptor (TJ10 k).2.2.1 = some (tyJ10 k) := by decide +kernel
def RJxfd54e : String := "java/lang/constant/Constable"
def TJxfd54e : u_T := fun k => match k with
  | _ => ("", "", "", false)
def tyJxfd54e : Nat → FieldType := fun k => match k with
  | _ => .int
abbrev wsJxfd54e0 : List Cond := u_ws RJxfd54e TJxfd54e 0
theorem nmJxfd54e : ∀ a, a < 0 → ∀ b, b < 0 → a ≠ b → (TJxfd54e a).2.1 ≠ (TJxfd54e b).2.1 := by decide +kernel
theorem tyJxfd54e_ok : ∀ k, k < 0 → parseFieldDescriptor (TJxfd54e k).2.2.1 = some (tyJxfd54e k) := by decide +kernel
def RJx3cf43 : String := "java/lang/constant/ConstantDesc"
def TJx3cf43 : u_T := fun k => match k with
  | _ => ("", "", "", false)
def tyJx3cf43 : Nat → FieldType := fun k => match k with
  | _ => .int
abbrev wsJx3cf430 : List Cond := u_ws RJx3cf43 TJx3cf43 0
theorem nmJx3cf43 : ∀ a, a < 0 → ∀ b, b < 0 → a ≠ b → (TJx3cf43 a).2.1 ≠ (TJx3cf43 b).2.1 := by decide +kernel
theorem tyJx3cf43_ok : ∀ k, k < 0 → parseFieldDescriptor (TJx3cf43 k).2.2.1 = some (tyJx3cf43 k) := by decide +kernel
def RJ7 : String := "java/util/Arrays"
def TJ7 : u_T := fun k => match k with
  | _ => ("", "", "", false)
def tyJ7 : Nat → FieldType := fun k => match k with
  | _ => .int
abbrev wsJ70 : List Cond := u_ws RJ7 TJ7 0
theorem nmJ7 : ∀ a, a < 0 → ∀ b, b < 0 → a ≠ b → (TJ7 a).2.1 ≠ (TJ7 b).2.1 := by decide +kernel
theorem tyJ7_ok : ∀ k, k < 0 → parseFieldDescriptor (TJ7 k).2.2.1 = some (tyJ7 k) := by decide +kernel
abbrev cJ7_fill_53178 : ByteArray := prog_18_method_103_code
def yJ7_fill_53178 : MethodName := ⟨RJ7, "fill", "([II)V"⟩
def RJ3 : String := "jdk/internal/util/Preconditions"
def TJ3 : u_T := fun k => match k with
  | _ => ("", "", "", false)
def tyJ3 : Nat → FieldType := fun k => match k with
  | _ => .int
abbrev wsJ30 : List Cond := u_ws RJ3 TJ3 0
theorem nmJ3 : ∀ a, a < 0 → ∀ b, b < 0 → a ≠ b → (TJ3 a).2.1 ≠ (TJ3 b).2.1 := by decide +kernel
theorem tyJ3_ok : ∀ k, k < 0 → parseFieldDescriptor (TJ3 k).2.2.1 = some (tyJ3 k) := by decide +kernel
abbrev cJ3_checkIndex_8e157 : ByteArray := prog_19_method_11_code
def yJ3_checkIndex_8e157 : MethodName := ⟨RJ3, "checkIndex", "(IILjava/util/function/BiFunction;)I"⟩
abbrev cJ3_checkFromToIndex_8c36e : ByteArray := prog_19_method_12_code
def yJ3_checkFromToIndex_8c36e : MethodName := ⟨RJ3, "checkFromToIndex", "(IIILjava/util/function/BiFunction;)I"⟩
def RL : String := "GapTellingsLaw"
abbrev cL_law : ByteArray := code
def yL_law : MethodName := ⟨RL, "law", "([I)Z"⟩
end
section
/-! ===== the tables' words that stay, and the words of nest mates ===== -/
def tb : List Cond := lw_tbl.filter goodWord
def isNest : Cond → Bool
  | .fieldLinkNest .. => true
  | .methodLinkNest .. => true
  | _ => false
def nw : List Cond := tables_1.filter isNest
theorem tb_mem {w : Cond} (h : w ∈ tables_1) (hg : goodWord w = true) : w ∈ tb := List.mem_filter.mpr ⟨List.mem_append_right _ h, hg⟩
theorem tb_sel {q : MethodName × Nat} (h : q ∈ lw_privs) (hg : goodWord (Cond.selects q.1.cls q.1 q.1) = true) : Cond.selects q.1.cls q.1 q.1 ∈ tb :=
  List.mem_filter.mpr ⟨List.mem_append_left _ (List.mem_map.mpr ⟨q, h, rfl⟩), hg⟩
theorem nw_mem {w : Cond} (h : w ∈ tables_1) (hg : isNest w = true) : w ∈ nw := List.mem_filter.mpr ⟨h, hg⟩
theorem t_in1 {w : Cond} (h : w ∈ tables_1_1) : w ∈ tables_1 := List.mem_append_left _ h
theorem t_in2 {w : Cond} (h : w ∈ tables_1_2) : w ∈ tables_1 := List.mem_append_right _ (List.mem_append_left _ h)
theorem t_in3 {w : Cond} (h : w ∈ tables_1_3) : w ∈ tables_1 := List.mem_append_right _ (List.mem_append_right _ (List.mem_append_left _ h))
theorem t_in4 {w : Cond} (h : w ∈ tables_1_4) : w ∈ tables_1 := List.mem_append_right _ (List.mem_append_right _ (List.mem_append_right _ (List.mem_append_left _ h)))
theorem t_in5 {w : Cond} (h : w ∈ tables_1_5) : w ∈ tables_1 := List.mem_append_right _ (List.mem_append_right _ (List.mem_append_right _ (List.mem_append_right _ h)))
def NWX (U : State) : Prop := ∀ w ∈ nw, va_Nw w U
theorem NWX.warm {s U : State} (hW : s.WarmedH U.vm) (h : NWX s) : NWX U := by
  intro w hw
  have hn := (List.mem_filter.mp hw).2
  have h1 := h w hw
  cases w with
  | fieldLinkNest a i b n d k => exact va_Nw.warmF hW h1
  | methodLinkNest a i x k => exact va_Nw.warmM hW h1
  | _ => exact absurd hn (by simp [isNest])
theorem NWX.same {u U : State} (h : u.vm = U.vm) (hZ : NWX u) : NWX U := by
  intro w hw
  have hn := (List.mem_filter.mp hw).2
  have h1 := hZ w hw
  cases w with
  | fieldLinkNest a i b n d k => exact va_Nw.same rfl h h1
  | methodLinkNest a i x k => exact va_Nw.same rfl h h1
  | _ => exact absurd hn (by simp [isNest])
theorem good_tb {y : MethodName} {b : ByteArray} {n : Nat} {r : Option FieldType} {big : List Cond} (hb : ∀ w ∈ tb, w ∈ big) (h : Cond.code y b n r ∈ tb) : GoodIn big (Cond.code y b n r :: tb) := by
  intro w hw
  have hw' : w ∈ tb := by
    rcases List.mem_cons.mp hw with e | h'
    · rw [e]; exact h
    · exact h'
  exact ⟨hb w hw', good_of_word (List.mem_filter.mp hw').2⟩
/-! ===== the cells: regions; a cell is a region and an index in it ===== -/
abbrev Mem : Type := Nat → Int → Int → Int
abbrev PV : Type := Int ⊕ (Nat × Int)
abbrev inR (x : Int) : Prop := -2147483648 ≤ x ∧ x ≤ 2147483647
/-- a region: its kind (a class's number; 20 ints, 21 chars, 22 pictures), its slots, how many cells -/
def rgT : List (Nat × Nat × Int) := [(7, 13, 1), (21, 200, 1), (5, 4, 1), (20, 9, 1), (20, 9, 1), (1, 9, 2), (20, 4, 2), (20, 12, 2), (20, 12, 2), (20, 12, 2), (22, 7, 2), (3, 7, 14), (20, 3, 14), (20, 3, 14), (6, 4, 2), (20, 100, 2), (20, 101, 2), (20, 101, 2), (4, 3, 3), (20, 7, 3), (20, 7, 3), (0, 2, 1), (20, 12928, 1), (2, 10, 1), (99, 0, 0), (99, 0, 0), (99, 0, 0), (99, 0, 0), (99, 0, 0), (99, 0, 0), (8, 29, 1), (20, 200, 1), (99, 0, 0), (99, 0, 0), (99, 0, 0), (20, 36, 1), (99, 0, 0), (20, 77, 1), (20, 4, 1), (99, 0, 0), (99, 0, 0), (99, 0, 0), (20, 36, 1), (99, 0, 0), (20, 77, 1), (20, 7, 1), (20, 7, 1), (20, 7, 1), (20, 7, 1), (20, 7, 1), (20, 7, 1), (20, 21, 1), (20, 100, 1), (20, 12928, 1), (20, 15, 1), (20, 22, 1), (20, 33, 1)]
def kd (r : Nat) : Nat := (rgT.getD r (99, 0, 0)).1
def sz (r : Nat) : Nat := (rgT.getD r (99, 0, 0)).2.1
def cn (r : Nat) : Int := (rgT.getD r (99, 0, 0)).2.2
/-- where a field that is a reference leads -/
def rf (r : Nat) (i : Int) (j : Nat) : Option (Nat × Int) := match r, j with
  | 0, 0 => some (1, 0) | 0, 2 => some (2, 0) | 0, 3 => some (5, 0) | 0, 4 => some (5, 1) | 0, 5 => some (14, 0) | 0, 6 => some (14, 1)
  | 0, 7 => some (18, 0) | 0, 8 => some (21, 0) | 0, 9 => some (18, 1) | 0, 12 => some (23, 0)
  | 2, 0 => some (3, 0) | 2, 1 => some (4, 0)
  | 5, 2 => some (6, i) | 5, 4 => some (7, i) | 5, 5 => some (8, i) | 5, 6 => some (9, i) | 5, 8 => some (10, i)
  | 11, 5 => some (12, i) | 11, 6 => some (13, i)
  | 14, 0 => some (5, 1) | 14, 1 => some (15, i) | 14, 2 => some (16, i) | 14, 3 => some (17, i)
  | 18, 0 => some (5, 1) | 18, 1 => some (19, i) | 18, 2 => some (20, i)
  | 21, 0 => some (5, 1) | 21, 1 => some (22, 0)
  | 23, 0 => some (5, 1) | 23, 1 => some (14, 0) | 23, 2 => some (18, 2)
  | 30, 1 => some (31, 0) | 30, 5 => some (35, 0) | 30, 7 => some (37, 0) | 30, 8 => some (38, 0) | 30, 12 => some (42, 0) | 30, 14 => some (44, 0)
  | 30, 15 => some (45, 0) | 30, 16 => some (46, 0) | 30, 17 => some (47, 0) | 30, 18 => some (48, 0) | 30, 19 => some (49, 0) | 30, 20 => some (50, 0)
  | 30, 21 => some (51, 0) | 30, 22 => some (52, 0) | 30, 23 => some (53, 0) | 30, 24 => some (54, 0) | 30, 25 => some (55, 0) | 30, 26 => some (56, 0)
  | _, _ => none
abbrev classes : List vw_C := [(RX0, TX0, 2), (RX1, TX1, 9), (RX2, TX2, 10), (RX3, TX3, 7), (RX4, TX4, 3), (RX5, TX5, 4), (RX6, TX6, 4), (RX7, TX7, 13), (RX8, TX8, 29)]
abbrev AD : Type := Nat → Int → Nat
abbrev CS : Type := ClassId × ClassId × ClassId
abbrev tysX (cs : CS) : List (ClassId × FieldType) := [(cs.1, .int), (cs.2.1, .char), (cs.2.2, .object RX3)]
def fvl (ad : AD) (r : Nat) (i : Int) (f : Int → Int) (j : Nat) : Value := match rf r i j with
  | some q => .ref (ad q.1 q.2)
  | none => .int (Int32.ofInt (f j))
def ent (ad : AD) (cs : CS) (r : Nat) (i : Int) (f : Int → Int) : va_E :=
  if kd r = 20 then .inl (cs.1, sz r, .inl (fun j => Int32.ofInt (f j)))
  else if kd r = 21 then .inl (cs.2.1, sz r, .inl (fun j => Int32.ofInt (f j)))
  else if kd r = 22 then .inl (cs.2.2, sz r, .inr (.inr (.inr (.inr (fun j => some (ad 11 (7 * i + j)))))))
  else .inr (kd r, (List.range (sz r)).map (fvl ad r i f))
def okV (dom : Nat → Bool) : PV → Prop
  | .inl x => inR x
  | .inr q => dom q.1 = true ∧ 0 ≤ q.2 ∧ q.2 < cn q.1
def okS (dom : Nat → Bool) : List PV → Prop
  | [] => True
  | v :: t => okV dom v ∧ okS dom t
def okL (dom : Nat → Bool) : List (Option PV) → Prop
  | [] => True
  | some v :: t => okV dom v ∧ okL dom t
  | none :: t => okL dom t
def okM (M : Mem) : Prop := ∀ r i j, inR (M r i j)
def up3 (M : Mem) (r : Nat) (i j v : Int) : Mem := fun r' i' j' => if r' = r ∧ i' = i ∧ j' = j then v else M r' i' j'
theorem okM_upd {M : Mem} (h : okM M) {r : Nat} {i j v : Int} (hv : inR v) : okM (up3 M r i j v) := by
  intro r' i' j'
  unfold up3
  split
  · exact hv
  · exact h r' i' j'
def HI (D : va_G) (ad : AD) (cs : CS) (dom : Nat → Bool) (M : Mem) (H : Heap) : Prop :=
  ∀ (r : Nat) (i : Int), dom r = true → 0 ≤ i → i < cn r → va_at D classes (ad r i, ent ad cs r i (M r i)) H
def Inj (ad : AD) (dom : Nat → Bool) : Prop := ∀ r i r' i', dom r = true → 0 ≤ i → i < cn r → dom r' = true → 0 ≤ i' → i' < cn r' → ad r i = ad r' i' → r = r' ∧ i = i'
def frA (ad : AD) (dom : Nat → Bool) : Nat → Prop := fun a => ∃ r i, dom r = true ∧ 0 ≤ i ∧ i < cn r ∧ a = ad r i
def emb (ad : AD) : PV → Value
  | .inl x => .int (Int32.ofInt x)
  | .inr q => .ref (ad q.1 q.2)
theorem emb_cat (ad : AD) (v : PV) : (emb ad v).category = 1 := by cases v <;> rfl
/-! ===== numbers ===== -/
theorem oi_toInt {x : Int} (h : inR x) : (Int32.ofInt x).toInt = x := Int32.toInt_ofInt_of_le (by have := h.1; omega) (by have := h.2; omega)
theorem oi_le {x y : Int} (hx : inR x) (hy : inR y) : Int32.ofInt x ≤ Int32.ofInt y ↔ x ≤ y := by rw [Int32.le_iff_toInt_le, oi_toInt hx, oi_toInt hy]
theorem oi_lt {x y : Int} (hx : inR x) (hy : inR y) : Int32.ofInt x < Int32.ofInt y ↔ x < y := by rw [Int32.lt_iff_toInt_lt, oi_toInt hx, oi_toInt hy]
theorem oi_eq {x y : Int} (hx : inR x) (hy : inR y) : Int32.ofInt x = Int32.ofInt y ↔ x = y := by rw [← Int32.toInt_inj, oi_toInt hx, oi_toInt hy]
theorem oi_0 : Int32.ofInt 0 = 0 := rfl
theorem toInt_inR (x : Int32) : inR x.toInt := by
  have h1 := Int32.le_toInt x
  have h2 := Int32.toInt_lt x
  constructor <;> omega
theorem oi_in {x : Int} {n : Nat} (hx : inR x) (h0 : 0 ≤ x) (hn : x < n) : vp_in (Int32.ofInt x) n := by
  rw [vp_in_iff, oi_toInt hx]
  exact ⟨h0, hn⟩
theorem oi_clamp {x : Int} (hx : inR x) : (Int32.ofInt x).toNatClampNeg = x.toNat := by
  show (Int32.ofInt x).toInt.toNat = _
  rw [oi_toInt hx]
theorem oi_nat {x : Int} (h0 : 0 ≤ x) : ((x.toNat : Nat) : Int) = x := by omega
/-! ===== the texts that the class reads: 0 the first film, 1 the letters of sounds ===== -/
def tx0 : String := "f60;s0,6;s14,20;g20,28;s33,40;n44,50;p8,4,4,6,9,3,5;p18,6,8,7,12,4,7;p30,9,5,8,20,5,12,2,6;p42,3,9,5,8;p55,9,2,4,6,2,3;c1,2;b1;"
def sLen : List Nat := [127, 3]
def sByt : List (List Int32) := [[102, 54, 48, 59, 115, 48, 44, 54, 59, 115, 49, 52, 44, 50, 48, 59, 103, 50, 48, 44, 50, 56, 59, 115, 51, 51, 44, 52, 48, 59, 110, 52, 52, 44, 53, 48, 59, 112, 56, 44, 52, 44, 52, 44, 54, 44, 57, 44, 51, 44, 53, 59, 112, 49, 56, 44, 54, 44, 56, 44, 55, 44, 49, 50, 44, 52, 44, 55, 59, 112, 51, 48, 44, 57, 44, 53, 44, 56, 44, 50, 48, 44, 53, 44, 49, 50, 44, 50, 44, 54, 59, 112, 52, 50, 44, 51, 44, 57, 44, 53, 44, 56, 59, 112, 53, 53, 44, 57, 44, 50, 44, 52, 44, 54, 44, 50, 44, 51, 59, 99, 49, 44, 50, 59, 98, 49, 59], [115, 103, 110]]
def SY (adK adV : Nat → Nat) (A : Nat → Prop) (U : State) : Prop := vk_S 2 sLen sByt adK adV A U U.heap ∧ va_Z "java/lang/String" "COMPACT_STRINGS" "Z" (.int 1) A U U.heap ∧ va_Zq "jdk/internal/util/Preconditions" "SIOOBE_FORMATTER" "Ljava/util/function/BiFunction;" A U U.heap ∧ vk_R "GapTellings" 68 tx0 (adK 0) U ∧ vk_R "GapTellings$TextReader" 49 "sgn" (adK 1) U
def SX (A : Nat → Prop) (U : State) : Prop := ∃ adK adV : Nat → Nat, SY adK adV A U
theorem SY.warm {adK adV : Nat → Nat} {A : Nat → Prop} {s U : State} (hW : s.WarmedH U.vm) (hq : ∀ q : Nat, q < s.heap.size → ¬ A q → U.heap[q]? = s.heap[q]?) (h : SY adK adV A s) : SY adK adV A U := by
  obtain ⟨h1, h2, h3, h4, h5⟩ := h
  exact ⟨(vk_S.moved hW.alike h1).kept hq, (va_Z.moved hW.alike h2).kept hq, (va_Zq.moved hW.alike h3).kept hq, h4.warm hW, h5.warm hW⟩
theorem SX.warm {A : Nat → Prop} {s U : State} (hW : s.WarmedH U.vm) (hq : ∀ q : Nat, q < s.heap.size → ¬ A q → U.heap[q]? = s.heap[q]?) (h : SX A s) : SX A U := by
  obtain ⟨a, b, h⟩ := h
  exact ⟨a, b, h.warm hW hq⟩
theorem SY.same {adK adV : Nat → Nat} {A : Nat → Prop} {u U : State} (hv : u.vm = U.vm) (hh : u.heap = U.heap) (h : SY adK adV A u) : SY adK adV A U := by
  have al : u.vm.Alike U.vm := by rw [hv]; exact Vm.Alike.refl _
  obtain ⟨h1, h2, h3, h4, h5⟩ := h
  refine ⟨?_, ?_, ?_, h4.same hv.symm, h5.same hv.symm⟩
  · rw [← hh]; exact vk_S.moved al h1
  · rw [← hh]; exact va_Z.moved al h2
  · rw [← hh]; exact va_Zq.moved al h3
theorem SX.same {A : Nat → Prop} {u U : State} (hv : u.vm = U.vm) (hh : u.heap = U.heap) (h : SX A u) : SX A U := by
  obtain ⟨a, b, h⟩ := h
  exact ⟨a, b, h.same hv hh⟩
theorem SX.narrow {A B : Nat → Prop} {U : State} (hAB : ∀ q, B q → A q) (h : SX A U) : SX B U := by
  obtain ⟨a, b, h1, h2, h3, h4, h5⟩ := h
  exact ⟨a, b, h1.narrow hAB, h2.narrow hAB, h3.narrow hAB, h4, h5⟩
end
section
/-! ===== locals ===== -/
def prs (ad : AD) (lv : List (Option PV)) : List (Nat × Value) := (List.range lv.length).filterMap (fun k => match lv[k]? with
  | some (some v) => some (k, emb ad v)
  | _ => none)
theorem prs_mem {ad : AD} {lv : List (Option PV)} {q : Nat × Value} : q ∈ prs ad lv ↔ ∃ v, lv[q.1]? = some (some v) ∧ q.2 = emb ad v := by
  unfold prs
  rw [List.mem_filterMap]
  constructor
  · rintro ⟨k, hk, h⟩
    split at h
    · rename_i v hv
      cases h
      exact ⟨v, hv, rfl⟩
    · cases h
  · rintro ⟨v, hv, h⟩
    refine ⟨q.1, List.mem_range.mpr ?_, ?_⟩
    · exact (List.getElem?_eq_some_iff.mp hv).1
    · rw [hv]
      obtain ⟨a, b⟩ := q
      subst h
      rfl
theorem prs_at {ad : AD} {ls : Array Slot} {nL : Nat} {lv : List (Option PV)} (h : lv_has ls nL (prs ad lv)) {k : Nat} {v : PV} (hk : lv[k]? = some (some v)) : ls[k]? = some (.val (emb ad v)) :=
  h.2.2 (k, emb ad v) (prs_mem.mpr ⟨v, hk, rfl⟩)
theorem prs_set {ad : AD} {ls : Array Slot} {nL : Nat} {lv : List (Option PV)} {i : Nat} {v : PV} (hi : i < lv.length) (h : lv_has ls nL ((i, emb ad v) :: (prs ad lv).filter (fun q => !(q.1 == i) && !(q.1 + 1 == i && q.2.category == 2)))) : lv_has ls nL (prs ad (lv.set i (some v))) := by
  refine ⟨h.1, h.2.1, ?_⟩
  intro q hq
  obtain ⟨w, hw, he⟩ := prs_mem.mp hq
  obtain ⟨a, b⟩ := q
  dsimp only at hw he ⊢
  subst he
  by_cases hai : a = i
  · subst hai
    rw [List.getElem?_set_self hi] at hw
    cases hw
    exact h.2.2 (a, emb ad v) List.mem_cons_self
  · rw [List.getElem?_set_ne (Ne.symm hai)] at hw
    refine h.2.2 (a, emb ad w) (List.mem_cons_of_mem _ (List.mem_filter.mpr ⟨prs_mem.mpr ⟨w, hw, rfl⟩, ?_⟩))
    simp [hai, emb_cat]
theorem prs_sub {ad : AD} {ls : Array Slot} {nL : Nat} {lv lv' : List (Option PV)} (hs : ∀ (k : Nat) (v : PV), lv'[k]? = some (some v) → lv[k]? = some (some v)) (h : lv_has ls nL (prs ad lv)) : lv_has ls nL (prs ad lv') := by
  refine ⟨h.1, h.2.1, fun q hq => ?_⟩
  obtain ⟨w, hw, he⟩ := prs_mem.mp hq
  exact h.2.2 q (prs_mem.mpr ⟨w, hs _ _ hw, he⟩)
theorem okL_get {dom : Nat → Bool} {lv : List (Option PV)} (h : okL dom lv) {k : Nat} {v : PV} (hk : lv[k]? = some (some v)) : okV dom v := by
  induction lv generalizing k with
  | nil => simp at hk
  | cons a t ih =>
    cases k with
    | zero =>
      simp at hk
      subst hk
      exact h.1
    | succ k =>
      have ht : okL dom t := by cases a with
        | none => exact h
        | some w => exact h.2
      exact ih ht (by simpa using hk)
theorem okL_set {dom : Nat → Bool} {lv : List (Option PV)} (h : okL dom lv) {k : Nat} {v : PV} (hv : okV dom v) : okL dom (lv.set k (some v)) := by
  induction lv generalizing k with
  | nil => exact trivial
  | cons a t ih =>
    have ht : okL dom t := by cases a with
      | none => exact h
      | some w => exact h.2
    cases k with
    | zero => exact ⟨hv, ht⟩
    | succ k =>
      cases a with
      | none => exact ih ht
      | some w => exact ⟨h.1, ih ht⟩
theorem okL_sub {dom : Nat → Bool} {lv' lv : List (Option PV)} (hs : ∀ (k : Nat) (v : PV), lv'[k]? = some (some v) → lv[k]? = some (some v)) (h : okL dom lv) : okL dom lv' := by
  have key : ∀ l : List (Option PV), (∀ (k : Nat) (v : PV), l[k]? = some (some v) → okV dom v) → okL dom l := by
    intro l
    induction l with
    | nil => intro _; exact trivial
    | cons a t ih =>
      intro hh
      have ht := ih (fun k v e => hh (k + 1) v (by simpa using e))
      cases a with
      | none => exact ht
      | some w => exact ⟨hh 0 w rfl, ht⟩
  exact key lv' (fun k v e => okL_get h (hs k v e))
/-! ===== the judgement ===== -/
abbrev Kx : Type := (Program × Launch × Env × Room × State) × (MethodId × Array Value × List Frame × Method × Code) × (va_G × AD × CS × (Nat → Bool))
abbrev Kont : Type := Option Int → Mem → Prop
def QcX (D : va_G) (ad : AD) (cs : CS) (dom : Nat → Bool) (K : Kont) : Array Value → State → Outcome → State → Prop := fun _ st o t =>
  (∃ (r : Option Int) (M' : Mem), o = .returned (r.map fun x => .int (Int32.ofInt x)) ∧ (∀ x, r = some x → inR x) ∧ okM M' ∧ K r M' ∧ HI D ad cs dom M' t.heap) ∧ va_F (frA ad dom) st t
def V (κ : Kx) (nL : Nat) (M : Mem) (pc : Nat) (lv : List (Option PV)) (st : List PV) (K : Kont) : Prop :=
  (okM M → okL κ.2.2.2.2.2 lv → okS κ.2.2.2.2.2 st → ∀ (H : Heap) (locs : List Loc) (ls : Array Slot), HI κ.2.2.1 κ.2.2.2.1 κ.2.2.2.2.1 κ.2.2.2.2.2 M H →
    va_S (frA κ.2.2.2.1 κ.2.2.2.2.2) κ.1.2.2.2.2.heap H locs → lv_has ls nL (prs κ.2.2.2.1 lv) →
    W κ.1.1 κ.1.2.1 κ.1.2.2.1 κ.1.2.2.2.1 κ.1.2.2.2.2 κ.2.1.1 κ.2.1.2.1 κ.2.1.2.2.1 κ.2.1.2.2.2.1 κ.2.1.2.2.2.2 H locs 0 0
      (MQ κ.2.1.2.2.1 (QcX κ.2.2.1 κ.2.2.2.1 κ.2.2.2.2.1 κ.2.2.2.2.2 K) κ.2.1.2.1 κ.1.2.2.2.2 0 0 (frA κ.2.2.2.1 κ.2.2.2.2.2)) (F0 κ.2.1.1 pc ls (st.map (emb κ.2.2.2.1)))) ∧ True
def Dm (dom : Nat → Bool) : Prop := dom = (fun r => Nat.blt r 24) ∨ dom = (fun r => Nat.ble 30 r)
def Cx (κ : Kx) (own : String) (cc : ByteArray) (nL : Nat) (ret : Option FieldType) (rm : Room) (dom : Nat → Bool) : Prop :=
  κ.1.1.tables.exec = Jvm.exec ∧ κ.2.1.2.2.2.2.code = cc ∧ κ.2.1.2.2.2.2.maxLocals = nL ∧ κ.1.2.2.2.2.vm.findClass own = some κ.2.1.1.cls ∧ (∀ w ∈ tb, w.before κ.2.1.2.1 κ.1.2.2.2.2 = true) ∧ (NWX κ.1.2.2.2.2 ∧ SX (frA κ.2.2.2.1 κ.2.2.2.2.2) κ.1.2.2.2.2) ∧
  va_K κ.2.2.1 classes (tysX κ.2.2.2.2.1) κ.1.2.2.2.2 ∧ Inj κ.2.2.2.1 κ.2.2.2.2.2 ∧ κ.2.1.2.2.2.1.locks = false ∧ κ.2.1.2.2.2.1.sig.returnType = ret ∧ κ.1.2.2.2.1 = rm ∧ κ.2.2.2.2.2 = dom ∧ Dm dom
section VR
variable {κ : Kx} {own : String} {cc : ByteArray} {nL : Nat} {ret : Option FieldType} {rm : Room} {dom : Nat → Bool} {M : Mem} {pc : Nat} {lv : List (Option PV)} {st : List PV} {K : Kont}
def leL : List (Option PV) → List (Option PV) → Prop
  | [], _ => True
  | none :: t, _ :: u => leL t u
  | some v :: t, some w :: u => v = w ∧ leL t u
  | _, _ => False
theorem leL_get : ∀ (a b : List (Option PV)), leL a b → ∀ (k : Nat) (v : PV), a[k]? = some (some v) → b[k]? = some (some v)
  | [], _, _, k, v, h => by simp at h
  | none :: t, [], h, k, v, e => absurd h (by simp [leL])
  | none :: t, b :: u, h, 0, v, e => by simp at e
  | none :: t, b :: u, h, k + 1, v, e => by
    have := leL_get t u h k v (by simpa using e)
    simpa using this
  | some w :: t, [], h, k, v, e => absurd h (by simp [leL])
  | some w :: t, none :: u, h, k, v, e => absurd h (by simp [leL])
  | some w :: t, some x :: u, h, 0, v, e => by
    have h1 : w = x := h.1
    subst h1
    simpa using e
  | some w :: t, some x :: u, h, k + 1, v, e => by
    have := leL_get t u h.2 k v (by simpa using e)
    simpa using this
theorem v_weak (lv' : List (Option PV)) (hs : leL lv' lv) (k : V κ nL M pc lv' st K) : V κ nL M pc lv st K := by
  refine ⟨?_, trivial⟩
  intro oM oL oS H locs ls hH hS hl
  exact k.1 oM (okL_sub (leL_get lv' lv hs) oL) oS H locs ls hH hS (prs_sub (leL_get lv' lv hs) hl)
theorem v_okM (k : okM M → V κ nL M pc lv st K) : V κ nL M pc lv st K := ⟨fun oM => (k oM).1 oM, trivial⟩
theorem v_iconst (C : Cx κ own cc nL ret rm dom) {n : Int} (hd : decode cc pc = .ok (.iconst n, 1)) (ho : inR n) (k : V κ nL M (pc + 1) lv (.inl n :: st) K) : V κ nL M pc lv st K := by
  refine ⟨?_, trivial⟩
  intro oM oL oS H locs ls hH hS hl
  exact lv_iconst C.1 C.2.1 hd rfl (k.1 oM oL ⟨ho, oS⟩ H locs ls hH hS hl)
theorem v_bipush (C : Cx κ own cc nL ret rm dom) {n : Int} (hd : decode cc pc = .ok (.bipush n, 2)) (hv : (Int8.ofInt n).toInt32 = Int32.ofInt n) (ho : inR n) (k : V κ nL M (pc + 2) lv (.inl n :: st) K) : V κ nL M pc lv st K := by
  refine ⟨?_, trivial⟩
  intro oM oL oS H locs ls hH hS hl
  exact lv_bipush C.1 C.2.1 hd hv (k.1 oM oL ⟨ho, oS⟩ H locs ls hH hS hl)
theorem v_sipush (C : Cx κ own cc nL ret rm dom) {n : Int} (hd : decode cc pc = .ok (.sipush n, 3)) (hv : (Int16.ofInt n).toInt32 = Int32.ofInt n) (ho : inR n) (k : V κ nL M (pc + 3) lv (.inl n :: st) K) : V κ nL M pc lv st K := by
  refine ⟨?_, trivial⟩
  intro oM oL oS H locs ls hH hS hl
  exact lv_sipush C.1 C.2.1 hd hv (k.1 oM oL ⟨ho, oS⟩ H locs ls hH hS hl)
theorem v_ldc (C : Cx κ own cc nL ret rm dom) {idx : Nat} {n : Int} (hd : decode cc pc = .ok (.ldc idx, 2)) (hc : Cond.constant own idx (Int32.ofInt n) ∈ tb) (ho : inR n) (k : V κ nL M (pc + 2) lv (.inl n :: st) K) : V κ nL M pc lv st K := by
  refine ⟨?_, trivial⟩
  intro oM oL oS H locs ls hH hS hl
  exact lv_ldc C.1 C.2.1 C.2.2.2.1 (C.2.2.2.2.1 _ hc) hd (k.1 oM oL ⟨ho, oS⟩ H locs ls hH hS hl)
theorem v_iload_n (C : Cx κ own cc nL ret rm dom) {i : Fin 4} {x : Int} (hd : decode cc pc = .ok (.iload_n i, 1)) (hv : lv[i.val]? = some (some (.inl x))) (k : V κ nL M (pc + 1) lv (.inl x :: st) K) : V κ nL M pc lv st K := by
  refine ⟨?_, trivial⟩
  intro oM oL oS H locs ls hH hS hl
  exact lv_iload_n C.1 C.2.1 hd rfl (prs_at hl hv) (k.1 oM oL ⟨okL_get oL hv, oS⟩ H locs ls hH hS hl)
theorem v_iload (C : Cx κ own cc nL ret rm dom) {i : Nat} {x : Int} (hd : decode cc pc = .ok (.iload i, 2)) (hv : lv[i]? = some (some (.inl x))) (k : V κ nL M (pc + 2) lv (.inl x :: st) K) : V κ nL M pc lv st K := by
  refine ⟨?_, trivial⟩
  intro oM oL oS H locs ls hH hS hl
  exact lv_iload C.1 C.2.1 hd (prs_at hl hv) (k.1 oM oL ⟨okL_get oL hv, oS⟩ H locs ls hH hS hl)
theorem v_aload_n (C : Cx κ own cc nL ret rm dom) {i : Fin 4} {q : Nat × Int} (hd : decode cc pc = .ok (.aload_n i, 1)) (hv : lv[i.val]? = some (some (.inr q))) (k : V κ nL M (pc + 1) lv (.inr q :: st) K) : V κ nL M pc lv st K := by
  refine ⟨?_, trivial⟩
  intro oM oL oS H locs ls hH hS hl
  exact lv_aload_n C.1 C.2.1 hd rfl (prs_at hl hv) (k.1 oM oL ⟨okL_get oL hv, oS⟩ H locs ls hH hS hl)
theorem v_aload (C : Cx κ own cc nL ret rm dom) {i : Nat} {q : Nat × Int} (hd : decode cc pc = .ok (.aload i, 2)) (hv : lv[i]? = some (some (.inr q))) (k : V κ nL M (pc + 2) lv (.inr q :: st) K) : V κ nL M pc lv st K := by
  refine ⟨?_, trivial⟩
  intro oM oL oS H locs ls hH hS hl
  exact lv_aload C.1 C.2.1 hd (prs_at hl hv) (k.1 oM oL ⟨okL_get oL hv, oS⟩ H locs ls hH hS hl)
theorem v_istore_n (C : Cx κ own cc nL ret rm dom) {i : Fin 4} {x : Int} {lv' : List (Option PV)} (hd : decode cc pc = .ok (.istore_n i, 1)) (hi : i.val < nL) (hj : i.val < lv.length) (hv : lv.set i.val (some (.inl x)) = lv') (k : V κ nL M (pc + 1) lv' st K) : V κ nL M pc lv (.inl x :: st) K := by
  refine ⟨?_, trivial⟩
  intro oM oL oS H locs ls hH hS hl
  subst hv
  exact lv_istore_n C.1 C.2.1 hd rfl hl hi rfl (fun ls' hl' => k.1 oM (okL_set oL oS.1) oS.2 H locs ls' hH hS (prs_set (v := .inl x) hj hl'))
theorem v_istore (C : Cx κ own cc nL ret rm dom) {i : Nat} {x : Int} {lv' : List (Option PV)} (hd : decode cc pc = .ok (.istore i, 2)) (hi : i < nL) (hj : i < lv.length) (hv : lv.set i (some (.inl x)) = lv') (k : V κ nL M (pc + 2) lv' st K) : V κ nL M pc lv (.inl x :: st) K := by
  refine ⟨?_, trivial⟩
  intro oM oL oS H locs ls hH hS hl
  subst hv
  exact lv_istore C.1 C.2.1 hd hl hi rfl (fun ls' hl' => k.1 oM (okL_set oL oS.1) oS.2 H locs ls' hH hS (prs_set (v := .inl x) hj hl'))
theorem v_astore_n (C : Cx κ own cc nL ret rm dom) {i : Fin 4} {q : Nat × Int} {lv' : List (Option PV)} (hd : decode cc pc = .ok (.astore_n i, 1)) (hi : i.val < nL) (hj : i.val < lv.length) (hv : lv.set i.val (some (.inr q)) = lv') (k : V κ nL M (pc + 1) lv' st K) : V κ nL M pc lv (.inr q :: st) K := by
  refine ⟨?_, trivial⟩
  intro oM oL oS H locs ls hH hS hl
  subst hv
  exact lv_astore_n C.1 C.2.1 hd rfl hl hi rfl (fun ls' hl' => k.1 oM (okL_set oL oS.1) oS.2 H locs ls' hH hS (prs_set (v := .inr q) hj hl'))
theorem v_astore (C : Cx κ own cc nL ret rm dom) {i : Nat} {q : Nat × Int} {lv' : List (Option PV)} (hd : decode cc pc = .ok (.astore i, 2)) (hi : i < nL) (hj : i < lv.length) (hv : lv.set i (some (.inr q)) = lv') (k : V κ nL M (pc + 2) lv' st K) : V κ nL M pc lv (.inr q :: st) K := by
  refine ⟨?_, trivial⟩
  intro oM oL oS H locs ls hH hS hl
  subst hv
  exact lv_astore C.1 C.2.1 hd hl hi rfl (fun ls' hl' => k.1 oM (okL_set oL oS.1) oS.2 H locs ls' hH hS (prs_set (v := .inr q) hj hl'))
theorem v_iinc (C : Cx κ own cc nL ret rm dom) {i : Nat} {n x : Int} {lv' : List (Option PV)} (hd : decode cc pc = .ok (.iinc i n, 3)) (hi : i < nL) (hx : lv[i]? = some (some (.inl x))) (ho : inR (x + n)) (hv : lv.set i (some (.inl (x + n))) = lv') (k : V κ nL M (pc + 3) lv' st K) : V κ nL M pc lv st K := by
  refine ⟨?_, trivial⟩
  intro oM oL oS H locs ls hH hS hl
  subst hv
  have hm : (i, Value.int (Int32.ofInt x)) ∈ prs κ.2.2.2.1 lv := prs_mem.mpr ⟨.inl x, hx, rfl⟩
  obtain ⟨k0, hk0⟩ := List.getElem?_of_mem hm
  exact lv_iinc C.1 C.2.1 hd hl hk0 (v := Int32.ofInt (x + n)) (by rw [Int32.ofInt_add]) hi rfl (fun ls' hl' => k.1 oM (okL_set oL ho) oS H locs ls' hH hS (prs_set (v := .inl (x + n)) ((List.getElem?_eq_some_iff.mp hx).1) hl'))
theorem v_iadd (C : Cx κ own cc nL ret rm dom) {x y : Int} (hd : decode cc pc = .ok (.iadd, 1)) (ho : inR (x + y)) (k : V κ nL M (pc + 1) lv (.inl (x + y) :: st) K) : V κ nL M pc lv (.inl y :: .inl x :: st) K := by
  refine ⟨?_, trivial⟩
  intro oM oL oS H locs ls hH hS hl
  have h := k.1 oM oL ⟨ho, oS.2.2⟩ H locs ls hH hS hl
  refine lv_iadd C.1 C.2.1 hd ?_
  rw [← Int32.ofInt_add]
  exact h
theorem v_isub (C : Cx κ own cc nL ret rm dom) {x y : Int} (hd : decode cc pc = .ok (.isub, 1)) (ho : inR (x - y)) (k : V κ nL M (pc + 1) lv (.inl (x - y) :: st) K) : V κ nL M pc lv (.inl y :: .inl x :: st) K := by
  refine ⟨?_, trivial⟩
  intro oM oL oS H locs ls hH hS hl
  have h := k.1 oM oL ⟨ho, oS.2.2⟩ H locs ls hH hS hl
  refine lv_isub C.1 C.2.1 hd ?_
  rw [← Int32.ofInt_sub]
  exact h
theorem v_imul (C : Cx κ own cc nL ret rm dom) {x y : Int} (hd : decode cc pc = .ok (.imul, 1)) (ho : inR (x * y)) (k : V κ nL M (pc + 1) lv (.inl (x * y) :: st) K) : V κ nL M pc lv (.inl y :: .inl x :: st) K := by
  refine ⟨?_, trivial⟩
  intro oM oL oS H locs ls hH hS hl
  have h := k.1 oM oL ⟨ho, oS.2.2⟩ H locs ls hH hS hl
  refine lv_imul C.1 C.2.1 hd ?_
  rw [← Int32.ofInt_mul]
  exact h
theorem v_ineg (C : Cx κ own cc nL ret rm dom) {x : Int} (hd : decode cc pc = .ok (.ineg, 1)) (ho : inR (-x)) (k : V κ nL M (pc + 1) lv (.inl (-x) :: st) K) : V κ nL M pc lv (.inl x :: st) K := by
  refine ⟨?_, trivial⟩
  intro oM oL oS H locs ls hH hS hl
  have h := k.1 oM oL ⟨ho, oS.2⟩ H locs ls hH hS hl
  refine lv_ineg C.1 C.2.1 hd ?_
  rw [← Int32.ofInt_neg]
  exact h
theorem oi_div {x y : Int} (hx : inR x) (hy : inR y) (h0 : 0 ≤ x) (h1 : 0 < y) : Int32.ofInt x / Int32.ofInt y = Int32.ofInt (x / y) := by
  have hq : inR (x / y) := ⟨by have := Int.ediv_nonneg h0 (Int.le_of_lt h1); omega, by have := Int.ediv_le_self y h0; have := hx.2; omega⟩
  apply Int32.toInt_inj.mp
  rw [Int32.toInt_div_of_ne_right _ _ (fun h => ?_), oi_toInt hx, oi_toInt hy, oi_toInt hq, Int.tdiv_eq_ediv_of_nonneg h0]
  have h2 : (Int32.ofInt y).toInt = (-1 : Int32).toInt := by rw [h]
  rw [oi_toInt hy] at h2
  have : (-1 : Int32).toInt = -1 := rfl
  omega
theorem v_idiv (C : Cx κ own cc nL ret rm dom) {x y : Int} (hd : decode cc pc = .ok (.idiv, 1)) (h0 : 0 ≤ x) (h1 : 0 < y) (k : V κ nL M (pc + 1) lv (.inl (x / y) :: st) K) : V κ nL M pc lv (.inl y :: .inl x :: st) K := by
  refine ⟨?_, trivial⟩
  intro oM oL oS H locs ls hH hS hl
  obtain ⟨hy, hx, oS⟩ := oS
  have hq : inR (x / y) := ⟨by have := Int.ediv_nonneg h0 (Int.le_of_lt h1); omega, by have := Int.ediv_le_self y h0; have := hx.2; omega⟩
  have h := k.1 oM oL ⟨hq, oS⟩ H locs ls hH hS hl
  refine lv_idiv C.1 C.2.1 hd (fun h => ?_) ?_
  · have := (oi_eq (y := 0) hy (by decide)).mp h
    omega
  · rw [oi_div hx hy h0 h1]
    exact h
theorem v_irem (C : Cx κ own cc nL ret rm dom) {x y : Int} (hd : decode cc pc = .ok (.irem, 1)) (h0 : 0 ≤ x) (h1 : 0 < y) (k : V κ nL M (pc + 1) lv (.inl (x % y) :: st) K) : V κ nL M pc lv (.inl y :: .inl x :: st) K := by
  refine ⟨?_, trivial⟩
  intro oM oL oS H locs ls hH hS hl
  obtain ⟨hy, hx, oS⟩ := oS
  have hq : inR (x % y) := ⟨by have := Int.emod_nonneg x (Int.ne_of_gt h1); omega, by have := Int.emod_lt_of_pos x h1; have := hy.2; omega⟩
  have h := k.1 oM oL ⟨hq, oS⟩ H locs ls hH hS hl
  refine lv_irem C.1 C.2.1 hd (fun h => ?_) ?_
  · have := (oi_eq (y := 0) hy (by decide)).mp h
    omega
  · rw [oi_div hx hy h0 h1, ← Int32.ofInt_mul, ← Int32.ofInt_sub]
    have e : x - x / y * y = x % y := by rw [Int.mul_comm]; have := Int.mul_ediv_add_emod x y; omega
    rw [e]
    exact h
def bAnd (x y : Int) : Int := (Int32.ofInt x &&& Int32.ofInt y).toInt
def bOr (x y : Int) : Int := (Int32.ofInt x ||| Int32.ofInt y).toInt
def bXor (x y : Int) : Int := (Int32.ofInt x ^^^ Int32.ofInt y).toInt
def bShl (x y : Int) : Int := (Int32.ofInt x <<< (Int32.ofInt y &&& 31)).toInt
def bShr (x y : Int) : Int := (Int32.ofInt x >>> (Int32.ofInt y &&& 31)).toInt
theorem v_iand (C : Cx κ own cc nL ret rm dom) {x y : Int} (hd : decode cc pc = .ok (.iand, 1)) (k : V κ nL M (pc + 1) lv (.inl (bAnd x y) :: st) K) : V κ nL M pc lv (.inl y :: .inl x :: st) K := by
  refine ⟨?_, trivial⟩
  intro oM oL oS H locs ls hH hS hl
  have h := k.1 oM oL ⟨toInt_inR _, oS.2.2⟩ H locs ls hH hS hl
  refine lv_iand C.1 C.2.1 hd ?_
  rw [← Int32.ofInt_toInt (Int32.ofInt x &&& Int32.ofInt y)]
  exact h
theorem v_ior (C : Cx κ own cc nL ret rm dom) {x y : Int} (hd : decode cc pc = .ok (.ior, 1)) (k : V κ nL M (pc + 1) lv (.inl (bOr x y) :: st) K) : V κ nL M pc lv (.inl y :: .inl x :: st) K := by
  refine ⟨?_, trivial⟩
  intro oM oL oS H locs ls hH hS hl
  have h := k.1 oM oL ⟨toInt_inR _, oS.2.2⟩ H locs ls hH hS hl
  refine lv_ior C.1 C.2.1 hd ?_
  rw [← Int32.ofInt_toInt (Int32.ofInt x ||| Int32.ofInt y)]
  exact h
theorem v_ixor (C : Cx κ own cc nL ret rm dom) {x y : Int} (hd : decode cc pc = .ok (.ixor, 1)) (k : V κ nL M (pc + 1) lv (.inl (bXor x y) :: st) K) : V κ nL M pc lv (.inl y :: .inl x :: st) K := by
  refine ⟨?_, trivial⟩
  intro oM oL oS H locs ls hH hS hl
  have h := k.1 oM oL ⟨toInt_inR _, oS.2.2⟩ H locs ls hH hS hl
  refine lv_ixor C.1 C.2.1 hd ?_
  rw [← Int32.ofInt_toInt (Int32.ofInt x ^^^ Int32.ofInt y)]
  exact h
theorem v_ishl (C : Cx κ own cc nL ret rm dom) {x y : Int} (hd : decode cc pc = .ok (.ishl, 1)) (k : V κ nL M (pc + 1) lv (.inl (bShl x y) :: st) K) : V κ nL M pc lv (.inl y :: .inl x :: st) K := by
  refine ⟨?_, trivial⟩
  intro oM oL oS H locs ls hH hS hl
  have h := k.1 oM oL ⟨toInt_inR _, oS.2.2⟩ H locs ls hH hS hl
  refine lv_ishl C.1 C.2.1 hd ?_
  rw [← Int32.ofInt_toInt (Int32.ofInt x <<< (Int32.ofInt y &&& 31))]
  exact h
theorem v_ishr (C : Cx κ own cc nL ret rm dom) {x y : Int} (hd : decode cc pc = .ok (.ishr, 1)) (k : V κ nL M (pc + 1) lv (.inl (bShr x y) :: st) K) : V κ nL M pc lv (.inl y :: .inl x :: st) K := by
  refine ⟨?_, trivial⟩
  intro oM oL oS H locs ls hH hS hl
  have h := k.1 oM oL ⟨toInt_inR _, oS.2.2⟩ H locs ls hH hS hl
  refine lv_ishr C.1 C.2.1 hd ?_
  rw [← Int32.ofInt_toInt (Int32.ofInt x >>> (Int32.ofInt y &&& 31))]
  exact h
theorem v_pop (C : Cx κ own cc nL ret rm dom) {v : PV} (hd : decode cc pc = .ok (.pop, 1)) (k : V κ nL M (pc + 1) lv st K) : V κ nL M pc lv (v :: st) K := by
  refine ⟨?_, trivial⟩
  intro oM oL oS H locs ls hH hS hl
  exact lv_pop C.1 C.2.1 hd (emb_cat _ v) (k.1 oM oL oS.2 H locs ls hH hS hl)
theorem v_dup (C : Cx κ own cc nL ret rm dom) {v : PV} (hd : decode cc pc = .ok (.dup, 1)) (k : V κ nL M (pc + 1) lv (v :: v :: st) K) : V κ nL M pc lv (v :: st) K := by
  refine ⟨?_, trivial⟩
  intro oM oL oS H locs ls hH hS hl
  exact lv_dup C.1 C.2.1 hd (emb_cat _ v) (k.1 oM oL ⟨oS.1, oS⟩ H locs ls hH hS hl)
theorem v_dup2 (C : Cx κ own cc nL ret rm dom) {v w : PV} (hd : decode cc pc = .ok (.dup2, 1)) (k : V κ nL M (pc + 1) lv (v :: w :: v :: w :: st) K) : V κ nL M pc lv (v :: w :: st) K := by
  refine ⟨?_, trivial⟩
  intro oM oL oS H locs ls hH hS hl
  exact lv_dup2_11 C.1 C.2.1 hd (emb_cat _ v) (emb_cat _ w) (k.1 oM oL ⟨oS.1, oS.2.1, oS⟩ H locs ls hH hS hl)
theorem v_goto (C : Cx κ own cc nL ret rm dom) {off : Int} {tgt : Nat} (hd : decode cc pc = .ok (.goto off, 3)) (ht : (pc : Int) + off = (tgt : Int)) (k : V κ nL M tgt lv st K) : V κ nL M pc lv st K := by
  refine ⟨?_, trivial⟩
  intro oM oL oS H locs ls hH hS hl
  exact lv_goto C.1 C.2.1 hd ht (k.1 oM oL oS H locs ls hH hS hl)
end VR
end
section
/-! ===== branches, fields, arrays, ends ===== -/
theorem rf_ok {dom : Nat → Bool} {r : Nat} {i : Int} {j : Nat} {q : Nat × Int} (hdom : Dm dom) (hi : dom r = true ∧ 0 ≤ i ∧ i < cn r) (h : rf r i j = some q) : okV dom (.inr q) := by
  obtain ⟨h1, h2, h3⟩ := hi
  unfold rf at h
  split at h
  all_goals first
    | (cases h; done)
    | (cases h
       rcases hdom with e | e <;> subst e <;> simp [okV, cn, rgT, Nat.blt, Nat.ble] at h1 h2 h3 ⊢ <;> omega)
def gv (M : Mem) (r : Nat) (i : Int) (j : Nat) : PV := match rf r i j with
  | some q => .inr q
  | none => .inl (M r i j)
/-- the word of a field at an index of a class's pool: class number, slot -/
def FL (own : String) (idx ci j : Nat) : Prop := ∃ (Cn : String) (T : u_T) (N : Nat), classes[ci]? = some (Cn, T, N) ∧ j < N ∧ (∀ w ∈ u_ws Cn T N, w ∈ tb) ∧
  (Cond.fieldLink own idx (T j).1 (T j).2.1 (T j).2.2.1 ∈ tb ∨ ∃ host : String, Cond.fieldLinkNest own idx (T j).1 (T j).2.1 (T j).2.2.1 host ∈ nw)
/-- may be written: an int, or a boolean -/
def PL (own : String) (idx ci j : Nat) (ty : FieldType) : Prop := ∃ (Cn : String) (T : u_T) (N : Nat), classes[ci]? = some (Cn, T, N) ∧ j < N ∧ (∀ w ∈ u_ws Cn T N, w ∈ tb) ∧
  (Cond.fieldLink own idx (T j).1 (T j).2.1 (T j).2.2.1 ∈ tb ∨ ∃ host : String, Cond.fieldLinkNest own idx (T j).1 (T j).2.1 (T j).2.2.1 host ∈ nw) ∧
  (T j).2.2.2 = false ∧ parseFieldDescriptor (T j).2.2.1 = some ty ∧ ∃ ty0 : Nat → FieldType, (∀ k, k < N → parseFieldDescriptor (T k).2.2.1 = some (ty0 k)) ∧ (∀ a, a < N → ∀ b, b < N → a ≠ b → (T a).2.1 ≠ (T b).2.1)
theorem Cx_dm {κ : Kx} {own : String} {cc : ByteArray} {nL : Nat} {ret : Option FieldType} {rm : Room} {dom : Nat → Bool} (C : Cx κ own cc nL ret rm dom) : Dm κ.2.2.2.2.2 := by
  rw [C.2.2.2.2.2.2.2.2.2.2.2.1]
  exact C.2.2.2.2.2.2.2.2.2.2.2.2
section VR2
variable {κ : Kx} {own : String} {cc : ByteArray} {nL : Nat} {ret : Option FieldType} {rm : Room} {dom : Nat → Bool} {M : Mem} {pc : Nat} {lv : List (Option PV)} {st : List PV} {K : Kont}
theorem v_icmp (C : Cx κ own cc nL ret rm dom) {cd : Jvm.ClassFile.Cond} {x y : Int} {off : Int} {tgt : Nat} {P : Prop} (hd : decode cc pc = .ok (.if_icmp cd off, 3)) (ht : (pc : Int) + off = (tgt : Int))
    (hP : match cd with | .eq => (x = y) = P | .ne => (x ≠ y) = P | .lt => (x < y) = P | .ge => (y ≤ x) = P | .gt => (y < x) = P | .le => (x ≤ y) = P)
    (kt : P → V κ nL M tgt lv st K) (kf : ¬ P → V κ nL M (pc + 3) lv st K) : V κ nL M pc lv (.inl y :: .inl x :: st) K := by
  refine ⟨?_, trivial⟩
  intro oM oL oS H locs ls hH hS hl
  obtain ⟨hy, hx, oS⟩ := oS
  have hx : inR x := hx
  have hy : inR y := hy
  have a := fun h : P => (kt h).1 oM oL oS H locs ls hH hS hl
  have b := fun h : ¬ P => (kf h).1 oM oL oS H locs ls hH hS hl
  cases cd <;> dsimp only at hP <;> subst hP
  · exact lv_icmp_eq C.1 C.2.1 hd ht (fun h => a ((oi_eq hx hy).mp h)) (fun h => b (fun q => h ((oi_eq hx hy).mpr q)))
  · exact lv_icmp_ne C.1 C.2.1 hd ht (fun h => a (fun q => h ((oi_eq hx hy).mpr q))) (fun h => b (fun q => q ((oi_eq hx hy).mp h)))
  · exact lv_icmp_lt C.1 C.2.1 hd ht (fun h => a ((oi_lt hx hy).mp h)) (fun h => b (fun q => h ((oi_lt hx hy).mpr q)))
  · exact lv_icmp_ge C.1 C.2.1 hd ht (fun h => a ((oi_le hy hx).mp h)) (fun h => b (fun q => h ((oi_le hy hx).mpr q)))
  · exact lv_icmp_gt C.1 C.2.1 hd ht (fun h => a ((oi_lt hy hx).mp h)) (fun h => b (fun q => h ((oi_lt hy hx).mpr q)))
  · exact lv_icmp_le C.1 C.2.1 hd ht (fun h => a ((oi_le hx hy).mp h)) (fun h => b (fun q => h ((oi_le hx hy).mpr q)))
theorem v_if (C : Cx κ own cc nL ret rm dom) {cd : Jvm.ClassFile.Cond} {x : Int} {off : Int} {tgt : Nat} {P : Prop} (hd : decode cc pc = .ok (.ifCond cd off, 3)) (ht : (pc : Int) + off = (tgt : Int))
    (hP : match cd with | .eq => (x = 0) = P | .ne => (x ≠ 0) = P | .lt => (x < 0) = P | .ge => (0 ≤ x) = P | .gt => (0 < x) = P | .le => (x ≤ 0) = P)
    (kt : P → V κ nL M tgt lv st K) (kf : ¬ P → V κ nL M (pc + 3) lv st K) : V κ nL M pc lv (.inl x :: st) K := by
  refine ⟨?_, trivial⟩
  intro oM oL oS H locs ls hH hS hl
  obtain ⟨hx, oS⟩ := oS
  have hx : inR x := hx
  have hy : inR 0 := by decide
  have a := fun h : P => (kt h).1 oM oL oS H locs ls hH hS hl
  have b := fun h : ¬ P => (kf h).1 oM oL oS H locs ls hH hS hl
  cases cd <;> dsimp only at hP <;> subst hP
  · exact lv_if_eq C.1 C.2.1 hd ht (fun h => a ((oi_eq hx hy).mp h)) (fun h => b (fun q => h ((oi_eq hx hy).mpr q)))
  · exact lv_if_ne C.1 C.2.1 hd ht (fun h => a (fun q => h ((oi_eq hx hy).mpr q))) (fun h => b (fun q => q ((oi_eq hx hy).mp h)))
  · exact lv_if_lt C.1 C.2.1 hd ht (fun h => a ((oi_lt hx hy).mp h)) (fun h => b (fun q => h ((oi_lt hx hy).mpr q)))
  · exact lv_if_ge C.1 C.2.1 hd ht (fun h => a ((oi_le hy hx).mp h)) (fun h => b (fun q => h ((oi_le hy hx).mpr q)))
  · exact lv_if_gt C.1 C.2.1 hd ht (fun h => a ((oi_lt hy hx).mp h)) (fun h => b (fun q => h ((oi_lt hy hx).mpr q)))
  · exact lv_if_le C.1 C.2.1 hd ht (fun h => a ((oi_le hx hy).mp h)) (fun h => b (fun q => h ((oi_le hx hy).mpr q)))
theorem v_tsw (C : Cx κ own cc nL ret rm dom) {dflt lo hi : Int} {offs : Array Int} {len : Nat} {x : Int} {dt : Nat} (hd : decode cc pc = .ok (.tableswitch dflt lo hi offs, len)) (ht : (pc : Int) + dflt = (dt : Int))
    (hin : ∀ j : Nat, lo + j = x → x ≤ hi → ∃ (off : Int) (tgt : Nat), offs[j]? = some off ∧ (pc : Int) + off = (tgt : Int) ∧ V κ nL M tgt lv st K) (hout : x < lo ∨ hi < x → V κ nL M dt lv st K) : V κ nL M pc lv (.inl x :: st) K := by
  refine ⟨?_, trivial⟩
  intro oM oL oS H locs ls hH hS hl
  obtain ⟨hx, oS⟩ := oS
  have hx : inR x := hx
  by_cases h : x < lo ∨ hi < x
  · exact lv_tableOut C.1 C.2.1 hd (by rw [oi_toInt hx]; exact h) ht ((hout h).1 oM oL oS H locs ls hH hS hl)
  · obtain ⟨off, tgt, h1, h2, h3⟩ := hin (x - lo).toNat (by omega) (by omega)
    exact lv_tableIn C.1 C.2.1 hd (by rw [oi_toInt hx]; omega) (by rw [oi_toInt hx]; omega) (by rw [oi_toInt hx]; exact h1) h2 (h3.1 oM oL oS H locs ls hH hS hl)
theorem ent_obj {ad : AD} {cs : CS} {r : Nat} {i : Int} {f : Int → Int} (h : kd r < 20) : ent ad cs r i f = .inr (kd r, (List.range (sz r)).map (fvl ad r i f)) := by
  unfold ent
  rw [if_neg (by omega), if_neg (by omega), if_neg (by omega)]
theorem v_get (C : Cx κ own cc nL ret rm dom) {r : Nat} {i : Int} {idx j ci : Nat} {w : PV} (hd : decode cc pc = .ok (.getfield idx, 3)) (hf : FL own idx ci j) (hk : kd r = ci) (hci : ci < 20) (hs : j < sz r) (hw : gv M r i j = w)
    (k : V κ nL M (pc + 3) lv (w :: st) K) : V κ nL M pc lv (.inr (r, i) :: st) K := by
  refine ⟨?_, trivial⟩
  intro oM oL oS H locs ls hH hS hl
  obtain ⟨hv, oS⟩ := oS
  subst hw
  have ow : okV κ.2.2.2.2.2 (gv M r i j) := by
    unfold gv
    split
    · rename_i q hq
      exact rf_ok (Cx_dm C) hv hq
    · exact oM _ _ _
  have h := k.1 oM oL ⟨ow, oS⟩ H locs ls hH hS hl
  have hat := hH r i hv.1 hv.2.1 hv.2.2
  rw [ent_obj (by omega)] at hat
  have hP : va_P κ.2.2.1 classes [(κ.2.2.2.1 r i, .inr (ci, (List.range (sz r)).map (fvl κ.2.2.2.1 r i (M r i))))] H := by
    intro k0 q hq
    cases k0 with
    | zero =>
      simp at hq
      subst hq
      rw [← hk]
      exact hat
    | succ n => simp at hq
  have hval : ((List.range (sz r)).map (fvl κ.2.2.2.1 r i (M r i)))[j]? = some (emb κ.2.2.2.1 (gv M r i j)) := by
    rw [List.getElem?_map, List.getElem?_range hs]
    cases hrf : rf r i j <;> simp [fvl, gv, hrf, emb]
  obtain ⟨Cn, T, N, h1, h2, h3, h4⟩ := hf
  rcases h4 with h4 | ⟨host, h4⟩
  · exact va_get C.1 C.2.1 C.2.2.2.2.1 h3 C.2.2.2.1 C.2.2.2.2.2.2.1 hP 0 rfl h1 j h2 (C.2.2.2.2.1 _ h4) (fun _ h9 => h9) hval hd h
  · exact va_getN C.1 C.2.1 C.2.2.2.2.1 h3 C.2.2.2.1 C.2.2.2.2.2.2.1 hP 0 rfl h1 j h2 (va_Nw.use rfl (C.2.2.2.2.2.1.1 _ h4)) (fun _ h9 => h9) hval hd h
/-- a cell is written anew: the heap holds the new memory -/
theorem HI_put {D : va_G} {ad : AD} {cs : CS} {dom : Nat → Bool} {M M' : Mem} {H H1 : Heap} {r : Nat} {i : Int} (hI : Inj ad dom) (hv : dom r = true ∧ 0 ≤ i ∧ i < cn r) (h : HI D ad cs dom M H) (hM : ∀ r' i', ¬ (r' = r ∧ i' = i) → M' r' i' = M r' i')
    (hn : va_at D classes (ad r i, ent ad cs r i (M' r i)) H1) (ho : ∀ q, q ≠ ad r i → H1[q]? = H[q]?) : HI D ad cs dom M' H1 := by
  intro r' i' h1 h2 h3
  by_cases e : r' = r ∧ i' = i
  · obtain ⟨e1, e2⟩ := e
    subst e1; subst e2
    exact hn
  · rw [hM r' i' e]
    refine (h r' i' h1 h2 h3).kept (ho _ ?_)
    intro q
    exact e (hI r' i' r i h1 h2 h3 hv.1 hv.2.1 hv.2.2 q)
theorem fvl_set {ad : AD} {r : Nat} {i : Int} {M : Mem} {j n : Nat} {x : Int} (hr : rf r i j = none) (hj : j < n) : (List.range n).map (fvl ad r i (up3 M r i j x r i)) = ((List.range n).map (fvl ad r i (M r i))).set j (.int (Int32.ofInt x)) := by
  apply List.ext_getElem?
  intro a
  rw [List.getElem?_set]
  by_cases h : j = a
  · subst h
    rw [if_pos rfl, if_pos (by simpa using hj), List.getElem?_map, List.getElem?_range hj]
    simp [fvl, hr, up3]
  · rw [if_neg h, List.getElem?_map, List.getElem?_map]
    by_cases ha : a < n
    · rw [List.getElem?_range ha]
      have h' : ¬ ((a : Int) = (j : Int)) := by omega
      simp [fvl, up3, h']
    · have e : (List.range n)[a]? = none := List.getElem?_eq_none (by simpa using Nat.le_of_not_lt ha)
      rw [e]
      rfl
theorem frA_in {ad : AD} {dom : Nat → Bool} {r : Nat} {i : Int} (hv : dom r = true ∧ 0 ≤ i ∧ i < cn r) : frA ad dom (ad r i) := ⟨r, i, hv.1, hv.2.1, hv.2.2, rfl⟩
theorem v_put (C : Cx κ own cc nL ret rm dom) {r : Nat} {i x : Int} {idx j ci : Nat} {ty : FieldType} (hd : decode cc pc = .ok (.putfield idx, 3)) (hf : PL own idx ci j ty) (hk : kd r = ci) (hci : ci < 20) (hs : j < sz r) (hr : rf r i j = none)
    (hn : narrow ty (.int (Int32.ofInt x)) = .int (Int32.ofInt x)) (hfit : fits ty (.int (Int32.ofInt x)) = true)
    (k : V κ nL (up3 M r i j x) (pc + 3) lv st K) : V κ nL M pc lv (.inl x :: .inr (r, i) :: st) K := by
  refine ⟨?_, trivial⟩
  intro oM oL oS H locs ls hH hS hl
  obtain ⟨hx, hv, oS⟩ := oS
  have hat := hH r i hv.1 hv.2.1 hv.2.2
  rw [ent_obj (by omega)] at hat
  obtain ⟨Cn, T, N, h1, h2, h3, h4, hfin, hpd, ty0, hty, hnm⟩ := hf
  obtain ⟨rr, h1', cell, q1, q2, q3, q4⟩ := hat
  dsimp only at h1' q1 q2 q3 q4
  rw [hk] at h1' q2 q4
  have hr' : rr = (Cn, T, N) := Option.some.inj (h1'.symm.trans h1)
  subst hr'
  have hK := C.2.2.2.2.2.2.1
  have hap := va_apart (own := own) C.2.2.2.2.1 h3 ty0 hty hnm hK h1
  obtain ⟨hSl, hfc, kC, hkC, hkind⟩ := hK.1 ci _ h1
  obtain ⟨cf, kf, fi, f, hi, hsl⟩ := hSl j h2
  have hlay := C.2.2.2.2.1 _ (h3 _ (u_in_lay h2))
  unfold u_lay at hlay
  rw [if_neg (by rw [hfin]; decide)] at hlay
  have hst := (u_facts hfc hkC (u_lays C.2.2.2.2.1 h3 h2) hi).1
  have h6 := u_store hfc hkC hkind hlay hi hpd hn hfit
  have hmid : ∀ H' : Heap, H'[κ.2.2.2.1 r i]? = some (cell.setSlot f.slot (.int (Int32.ofInt x))) → H'.size = H.size → (∀ q, q ≠ κ.2.2.2.1 r i → H'[q]? = H[q]?) →
      HI κ.2.2.1 κ.2.2.2.1 κ.2.2.2.2.1 κ.2.2.2.2.2 (up3 M r i j x) H' ∧ ∀ lc : Loc, lc.base = κ.2.2.2.1 r i → va_S (frA κ.2.2.2.1 κ.2.2.2.2.2) κ.1.2.2.2.2.heap H' (locs ++ [lc]) := by
    intro H' e1 e2 e3
    refine ⟨HI_put C.2.2.2.2.2.2.2.1 hv hH ?_ ?_ e3, fun lc hlc => ⟨by rw [e2]; exact hS.1, fun q hq hn => ?_, fun l9 hl9 => ?_⟩⟩
    · intro r' i' hne
      funext j'
      unfold up3
      rw [if_neg (fun h => hne ⟨h.1, h.2.1⟩)]
    · rw [ent_obj (r := r) (show kd r < 20 by rw [hk]; exact hci), fvl_set hr hs]
      refine ⟨(Cn, T, N), by rw [hk]; exact h1, ?_⟩
      dsimp only
      rw [hk]
      rw [hsl] at e1
      exact t_OB.to (V := updV (vp_V ((List.range (sz r)).map (fvl κ.2.2.2.1 r i (M r i)))) j (.int (Int32.ofInt x))) ⟨_, e1, q2, q3, t_set q4 hap h2 _⟩ (fun j' _ => vp_updV_set (by simpa using hs) _ j')
    · rw [e3 q (fun e => hn (by rw [e]; exact frA_in hv))]
      exact hS.2.1 q hq hn
    · rcases List.mem_append.mp hl9 with h' | h'
      · exact hS.2.2 l9 h'
      · rw [List.mem_singleton.mp h', hlc]
        exact frA_in hv
  rcases h4 with h4 | ⟨host, h4⟩
  · refine W.putK C.1 C.2.1 (f := f) ⟨C.2.2.2.1, C.2.2.2.2.1 _ h4, ⟨_, _, _, hi⟩, hst⟩ (by rw [q2]; exact h6) q1 q3 (by rw [hsl]; exact k2_hasslot (q4 j h2)) rfl rfl hd fun H' e1 e2 e3 => ?_
    have hh := hmid H' e1 e2 e3
    exact k.1 (okM_upd oM hx) oL oS H' _ ls hh.1 (hh.2 ⟨_, _⟩ rfl) hl
  · refine va_WputK C.1 C.2.1 (f := f) C.2.2.2.1 (va_Nw.use rfl (C.2.2.2.2.2.1.1 _ h4)) hi hst (by rw [q2]; exact h6) q1 q3 (by rw [hsl]; exact k2_hasslot (q4 j h2)) rfl rfl hd fun H' e1 e2 e3 => ?_
    have hh := hmid H' e1 e2 e3
    exact k.1 (okM_upd oM hx) oL oS H' _ ls hh.1 (hh.2 ⟨_, _⟩ rfl) hl
theorem ent_int {ad : AD} {cs : CS} {r : Nat} {i : Int} {f : Int → Int} (h : kd r = 20) : ent ad cs r i f = .inl (cs.1, sz r, .inl (fun j => Int32.ofInt (f j))) := by
  unfold ent
  rw [if_pos h]
theorem ent_chr {ad : AD} {cs : CS} {r : Nat} {i : Int} {f : Int → Int} (h : kd r = 21) : ent ad cs r i f = .inl (cs.2.1, sz r, .inl (fun j => Int32.ofInt (f j))) := by
  unfold ent
  rw [if_neg (by omega), if_pos h]
theorem ent_pic {ad : AD} {cs : CS} {r : Nat} {i : Int} {f : Int → Int} (h : kd r = 22) : ent ad cs r i f = .inl (cs.2.2, sz r, .inr (.inr (.inr (.inr (fun j => some (ad 11 (7 * i + j))))))) := by
  unfold ent
  rw [if_neg (by omega), if_neg (by omega), if_pos h]
theorem P_one {D : va_G} {a : Nat} {e : va_E} {H : Heap} (h : va_at D classes (a, e) H) : va_P D classes [(a, e)] H := by
  intro k0 q hq
  cases k0 with
  | zero =>
    simp at hq
    subst hq
    exact h
  | succ n => simp at hq
theorem v_iald (C : Cx κ own cc nL ret rm dom) {r : Nat} {i x : Int} (hd : decode cc pc = .ok (.iaload, 1)) (hk : kd r = 20) (h0 : 0 ≤ x) (h1 : x < sz r) (k : V κ nL M (pc + 1) lv (.inl (M r i x) :: st) K) : V κ nL M pc lv (.inl x :: .inr (r, i) :: st) K := by
  refine ⟨?_, trivial⟩
  intro oM oL oS H locs ls hH hS hl
  obtain ⟨hx, hv, oS⟩ := oS
  have h := k.1 oM oL ⟨oM _ _ _, oS⟩ H locs ls hH hS hl
  have hat := hH r i hv.1 hv.2.1 hv.2.2
  rw [ent_int hk] at hat
  refine va_iald C.1 C.2.1 C.2.2.2.2.2.2.1 (P_one hat) 0 0 rfl rfl (oi_in hx h0 h1) hd ?_
  rw [oi_clamp hx, oi_nat h0]
  exact h
theorem v_cald (C : Cx κ own cc nL ret rm dom) {r : Nat} {i x : Int} (hd : decode cc pc = .ok (.caload, 1)) (hk : kd r = 21) (h0 : 0 ≤ x) (h1 : x < sz r) (k : V κ nL M (pc + 1) lv (.inl (M r i x) :: st) K) : V κ nL M pc lv (.inl x :: .inr (r, i) :: st) K := by
  refine ⟨?_, trivial⟩
  intro oM oL oS H locs ls hH hS hl
  obtain ⟨hx, hv, oS⟩ := oS
  have h := k.1 oM oL ⟨oM _ _ _, oS⟩ H locs ls hH hS hl
  have hat := hH r i hv.1 hv.2.1 hv.2.2
  rw [ent_chr hk] at hat
  refine va_cald C.1 C.2.1 C.2.2.2.2.2.2.1 (P_one hat) 0 1 rfl rfl (oi_in hx h0 h1) hd ?_
  rw [oi_clamp hx, oi_nat h0]
  exact h
theorem v_aald (C : Cx κ own cc nL ret rm dom) {i x : Int} (hd : decode cc pc = .ok (.aaload, 1)) (h0 : 0 ≤ x) (h1 : x < 7) (k : V κ nL M (pc + 1) lv (.inr (11, 7 * i + x) :: st) K) : V κ nL M pc lv (.inl x :: .inr (10, i) :: st) K := by
  refine ⟨?_, trivial⟩
  intro oM oL oS H locs ls hH hS hl
  obtain ⟨hx, hv, oS⟩ := oS
  have hv1 : κ.2.2.2.2.2 10 = true := hv.1
  have hv2 : 0 ≤ i := hv.2.1
  have hv3 : i < 2 := hv.2.2
  have hv' : okV κ.2.2.2.2.2 (.inr (11, 7 * i + x)) := by
    refine ⟨?_, by show 0 ≤ 7 * i + x; omega, by show 7 * i + x < 14; omega⟩
    rcases Cx_dm C with e | e <;> rw [e] at hv1 ⊢ <;> simp_all [Nat.blt, Nat.ble]
  have h := k.1 oM oL ⟨hv', oS⟩ H locs ls hH hS hl
  have hat := hH 10 i hv.1 hv.2.1 hv.2.2
  rw [ent_pic rfl] at hat
  refine va_aldq C.1 C.2.1 C.2.2.2.2.2.2.1 (P_one hat) 0 2 rfl rfl (oi_in (n := sz 10) hx h0 h1) hd ?_
  rw [oi_clamp hx, oi_nat h0]
  exact h
theorem HI_arr {D : va_G} {ad : AD} {cs : CS} {dom : Nat → Bool} {M : Mem} {H H1 : Heap} {r : Nat} {i x v : Int} {cA : ClassId} (hI : Inj ad dom) (hv : dom r = true ∧ 0 ≤ i ∧ i < cn r) (h : HI D ad cs dom M H) (h0 : 0 ≤ x)
    (he : ∀ f, ent ad cs r i f = .inl (cA, sz r, .inl (fun j => Int32.ofInt (f j)))) (hn : H1[ad r i]? = some ((vp_cell cA (sz r, .inl (fun j => Int32.ofInt (M r i j)))).setSlot x.toNat (.int (Int32.ofInt v)))) (ho : ∀ q, q ≠ ad r i → H1[q]? = H[q]?) : HI D ad cs dom (up3 M r i x v) H1 := by
  refine HI_put hI hv h ?_ ?_ ho
  · intro r' i' hne
    funext j'
    unfold up3
    rw [if_neg (fun h => hne ⟨h.1, h.2.1⟩)]
  · rw [he]
    show H1[ad r i]? = some (vp_cell _ _)
    rw [hn, vp_cell_i, vp_cell_i, arrV_store]
    congr 2
    funext q
    by_cases hq : q = x.toNat
    · subst hq
      simp [updV, up3, oi_nat h0]
    · have : ¬ ((q : Int) = x) := by omega
      simp [updV, up3, hq, this]
theorem v_iast (C : Cx κ own cc nL ret rm dom) {r : Nat} {i x v : Int} (hd : decode cc pc = .ok (.iastore, 1)) (hk : kd r = 20) (h0 : 0 ≤ x) (h1 : x < sz r) (k : V κ nL (up3 M r i x v) (pc + 1) lv st K) : V κ nL M pc lv (.inl v :: .inl x :: .inr (r, i) :: st) K := by
  refine ⟨?_, trivial⟩
  intro oM oL oS H locs ls hH hS hl
  obtain ⟨hw, hx, hv, oS⟩ := oS
  have hat := hH r i hv.1 hv.2.1 hv.2.2
  rw [ent_int hk] at hat
  have hin := oi_in hx h0 h1
  refine W.iast C.1 C.2.1 (j := Int32.ofInt x) (x := Int32.ofInt v) hat ((C.2.2.2.2.2.2.1.2 0 _ rfl).1 (sz r) (fun j => .int (Int32.ofInt (M r i j)))) (fun q => by cases q) (by show ¬ (_ < 0 ∨ (arrV _ _ _).slots.size ≤ _); rw [arrV_size]; exact hin) rfl rfl hd fun H1 e z oq => ?_
  rw [oi_clamp hx] at e ⊢
  refine k.1 (okM_upd oM hw) oL oS H1 _ ls (HI_arr C.2.2.2.2.2.2.2.1 hv hH h0 (fun f => ent_int hk) e oq) ?_ hl
  refine ⟨by rw [z]; exact hS.1, fun q hq hn => ?_, fun l9 hl9 => ?_⟩
  · rw [oq q (fun e => hn (by rw [e]; exact frA_in hv))]
    exact hS.2.1 q hq hn
  · rcases List.mem_append.mp hl9 with h' | h'
    · exact hS.2.2 l9 h'
    · rw [List.mem_singleton.mp h']
      exact frA_in hv
theorem v_cast (C : Cx κ own cc nL ret rm dom) {r : Nat} {i x v : Int} (hd : decode cc pc = .ok (.castore, 1)) (hk : kd r = 21) (h0 : 0 ≤ x) (h1 : x < sz r) (hv0 : 0 ≤ v) (hv1 : v < 65536) (k : V κ nL (up3 M r i x v) (pc + 1) lv st K) : V κ nL M pc lv (.inl v :: .inl x :: .inr (r, i) :: st) K := by
  refine ⟨?_, trivial⟩
  intro oM oL oS H locs ls hH hS hl
  obtain ⟨hw, hx, hv, oS⟩ := oS
  have hat := hH r i hv.1 hv.2.1 hv.2.2
  rw [ent_chr hk] at hat
  have hin := oi_in hx h0 h1
  refine W.cast C.1 C.2.1 (j := Int32.ofInt x) (x := Int32.ofInt v) hat ((C.2.2.2.2.2.2.1.2 1 _ rfl).1 (sz r) (fun j => .int (Int32.ofInt (M r i j)))) (fun q => by cases q) (by show ¬ (_ < 0 ∨ (arrV _ _ _).slots.size ≤ _); rw [arrV_size]; exact hin) rfl rfl hd fun H1 e z oq => ?_
  have hnar : narrow .char (.int (Int32.ofInt v)) = .int (Int32.ofInt v) := by
    have e1 : Int32.ofInt v = nI v.toNat := by
      show Int32.ofInt v = Int32.ofNat v.toNat
      rw [← Int32.ofInt_eq_ofNat, oi_nat hv0]
    rw [e1]
    exact (pk_charN (by omega)).1
  rw [oi_clamp hx, hnar] at e
  rw [oi_clamp hx]
  refine k.1 (okM_upd oM hw) oL oS H1 _ ls (HI_arr C.2.2.2.2.2.2.2.1 hv hH h0 (fun f => ent_chr hk) e oq) ?_ hl
  refine ⟨by rw [z]; exact hS.1, fun q hq hn => ?_, fun l9 hl9 => ?_⟩
  · rw [oq q (fun e => hn (by rw [e]; exact frA_in hv))]
    exact hS.2.1 q hq hn
  · rcases List.mem_append.mp hl9 with h' | h'
    · exact hS.2.2 l9 h'
    · rw [List.mem_singleton.mp h']
      exact frA_in hv
theorem v_i2c (C : Cx κ own cc nL ret rm dom) {x : Int} (hd : decode cc pc = .ok (.i2c, 1)) (h0 : 0 ≤ x) (h1 : x < 65536) (k : V κ nL M (pc + 1) lv (.inl x :: st) K) : V κ nL M pc lv (.inl x :: st) K := by
  refine ⟨?_, trivial⟩
  intro oM oL oS H locs ls hH hS hl
  refine lv_i2c C.1 C.2.1 hd (v := Int32.ofInt x) ?_ (k.1 oM oL oS H locs ls hH hS hl)
  have e1 : Int32.ofInt x = nI x.toNat := by
    show Int32.ofInt x = Int32.ofNat x.toNat
    rw [← Int32.ofInt_eq_ofNat, oi_nat h0]
  rw [pk_char, e1, pk_tn (by omega), Nat.mod_eq_of_lt (by omega)]
theorem v_iret (C : Cx κ own cc nL (some .int) rm dom) {x : Int} (hd : decode cc pc = .ok (.ireturn, 1)) (k : K (some x) M) : V κ nL M pc lv [.inl x] K := by
  refine ⟨?_, trivial⟩
  intro oM oL oS H locs ls hH hS hl
  exact W.iret C.1 C.2.1 C.2.2.2.2.2.2.2.2.2.1 (fun t ht hW => ⟨⟨some x, M, rfl, fun y hy => by cases hy; exact oS.1, oM, k, by rw [ht]; exact hH⟩, hS.F ht⟩) hS.2.2 hd C.2.2.2.2.2.2.2.2.1
theorem v_zret (C : Cx κ own cc nL (some .boolean) rm dom) {x : Int} (hd : decode cc pc = .ok (.ireturn, 1)) (hx : x = 0 ∨ x = 1) (k : K (some x) M) : V κ nL M pc lv [.inl x] K := by
  refine ⟨?_, trivial⟩
  intro oM oL oS H locs ls hH hS hl
  exact W.zret C.1 C.2.1 C.2.2.2.2.2.2.2.2.2.1 (by rcases hx with e | e <;> subst e <;> rfl) (fun t ht hW => ⟨⟨some x, M, rfl, fun y hy => by cases hy; exact oS.1, oM, k, by rw [ht]; exact hH⟩, hS.F ht⟩) hS.2.2 hd C.2.2.2.2.2.2.2.2.1
theorem v_vret (C : Cx κ own cc nL none rm dom) (hd : decode cc pc = .ok (.return_, 1)) (k : K none M) : V κ nL M pc lv [] K := by
  refine ⟨?_, trivial⟩
  intro oM oL oS H locs ls hH hS hl
  exact W.vret C.1 C.2.1 C.2.2.2.2.2.2.2.2.2.1 (fun t ht hW => ⟨⟨none, M, rfl, fun y hy => (by cases hy), oM, k, by rw [ht]; exact hH⟩, hS.F ht⟩) hS.2.2 hd C.2.2.2.2.2.2.2.2.1
end VR2
end
section
/-! ===== contracts, calls ===== -/
def PcX (D : va_G) (ad : AD) (cs : CS) (dom : Nat → Bool) (as : List PV) (M : Mem) : Array Value → State → Prop :=
  va_Pc (as.map (emb ad)) (fun U => va_K D classes (tysX cs) U ∧ (NWX U ∧ SX (frA ad dom) U) ∧ HI D ad cs dom M U.heap)
/-- a method's contract: from every memory where 'sp arguments memory K' holds it returns, and K holds of its answer and memory then -/
def Ct {α : Type} (y : MethodName) (b : ByteArray) (mL : Nat) (rt : Option FieldType) (rm : Room) (dom : Nat → Bool) (arg : α → List PV) (sp : α → Mem → Kont → Prop) : Prop :=
  ∀ (l : Launch) (D : va_G) (ad : AD) (cs : CS) (a : α) (M : Mem) (K : Kont), Inj ad dom → okM M → okS dom (arg a) → sp a M K →
    Met l y (Cond.code y b mL rt :: tb) rm (PcX D ad cs dom (arg a) M) (QcX D ad cs dom K) 0 0 (frA ad dom)
theorem PcX_blind {D : va_G} {ad : AD} {cs : CS} {dom : Nat → Bool} {as : List PV} {M : Mem} : FrameBlind (PcX D ad cs dom as M) := by
  intro a U g mk h
  obtain ⟨e, h1, h2, h3⟩ := h
  exact ⟨e, va_K.moved (u := U) (U := U.calling g mk a) (Vm.Alike.refl U.vm) h1, ⟨NWX.same (u := U) (U := U.calling g mk a) rfl h2.1, SX.same (u := U) (U := U.calling g mk a) rfl rfl h2.2⟩, h3⟩
def pushR : Option Int → List PV → List PV
  | some x, st => .inl x :: st
  | none, st => st
theorem lv_args_mem (ad : AD) : ∀ (as : List PV) (i k : Nat) (v : PV), as[k]? = some v → (i + k, emb ad v) ∈ lv_args i (as.map (emb ad))
  | [], i, k, v, h => by simp at h
  | a :: t, i, 0, v, h => by
    simp at h
    subst h
    exact List.mem_cons_self
  | a :: t, i, k + 1, v, h => by
    have := lv_args_mem ad t (i + 1) k v (by simpa using h)
    show (i + (k + 1), emb ad v) ∈ (i, emb ad a) :: lv_args (if (emb ad a).category = 2 then i + 2 else i + 1) (t.map (emb ad))
    rw [if_neg (by rw [emb_cat]; decide)]
    refine List.mem_cons_of_mem _ ?_
    have e : i + (k + 1) = i + 1 + k := by omega
    rw [e]
    exact this
theorem lg_sl_len (ad : AD) (as : List PV) : (lg_sl (as.map (emb ad))).length = as.length := by
  induction as with
  | nil => rfl
  | cons a t ih =>
    simp only [lg_sl, List.map_cons, List.flatMap_cons, List.length_append] at ih ⊢
    rw [ih, if_neg (by rw [emb_cat]; decide)]
    simp
    omega
def lvE (n : Nat) (as : List PV) : List (Option PV) := as.map some ++ List.replicate (n - as.length) none
theorem lvE_get {n : Nat} {as : List PV} {k : Nat} {v : PV} (h : (lvE n as)[k]? = some (some v)) : as[k]? = some v := by
  unfold lvE at h
  by_cases hk : k < as.length
  · rw [List.getElem?_append_left (by simpa using hk), List.getElem?_map] at h
    cases e : as[k]? with
    | none => rw [e] at h; cases h
    | some w => rw [e] at h; simpa using h
  · rw [List.getElem?_append_right (by simpa using Nat.le_of_not_lt hk), List.getElem?_replicate] at h
    split at h <;> simp at h
theorem okL_E {dom : Nat → Bool} {n : Nat} {as : List PV} (h : okS dom as) : okL dom (lvE n as) := by
  unfold lvE
  induction as generalizing n with
  | nil =>
    simp only [List.map_nil, List.nil_append]
    generalize n - ([] : List PV).length = j
    induction j with
    | zero => exact trivial
    | succ j ih => exact ih
  | cons a t ih =>
    have := ih (n := n - 1) h.2
    refine ⟨h.1, ?_⟩
    have e : n - (a :: t).length = n - 1 - t.length := by simp; omega
    rw [e]
    exact this
theorem ct_of {α : Type} {y : MethodName} {b : ByteArray} {mL : Nat} {rt : Option FieldType} {rm : Room} {dom : Nat → Bool} {arg : α → List PV} {sp : α → Mem → Kont → Prop} (hy : plainName y.cls = true) (hdm : Dm dom) (hlen : ∀ a, (arg a).length ≤ mL)
    (h : ∀ (κ : Kx) (a : α) (M : Mem) (K : Kont), Cx κ y.cls b mL rt rm dom → okM M → sp a M K → V κ mL M 0 (lvE mL (arg a)) [] K) : Ct y b mL rt rm dom arg sp := by
  intro l D ad cs a M K hI oM oS hsp
  refine Met.ofW (cc := b) (maxL := mL) (ret := rt) hy rfl ?_
  intro p e s m args below meth c s₁ B hml hv
  obtain ⟨rfl, hK, hN, hH⟩ := hv
  have hts : ∀ w ∈ tb, w.before ((arg a).map (emb ad)).toArray s = true := fun w hw => atoms_spec (ws := Cond.code y b mL rt :: tb) B.pre w (List.mem_cons_of_mem _ hw)
  have hown : s.vm.findClass y.cls = some m.cls := findClass_of_methodNamed B.named
  have hl := lv_entry ((arg a).map (emb ad)) (n := mL) (by rw [lg_sl_len]; exact hlen a)
  rw [lg_entry_eq]
  generalize (lg_sl ((arg a).map (emb ad)) ++ List.replicate (mL - (lg_sl ((arg a).map (emb ad))).length) Slot.unset).toArray = ls at hl ⊢
  have hl2 : lv_has ls mL (prs ad (lvE mL (arg a))) := by
    refine ⟨hl.1, hl.2.1, fun q hq => hl.2.2 q ?_⟩
    obtain ⟨v, hv, he⟩ := prs_mem.mp hq
    have := lv_args_mem ad (arg a) 0 q.1 v (lvE_get hv)
    rw [Nat.zero_add] at this
    obtain ⟨q1, q2⟩ := q
    dsimp only at he this ⊢
    rw [he]
    exact this
  exact (h ((p, l, e, (headSpec (Cond.code y b mL rt :: tb) rm).room, s), (m, ((arg a).map (emb ad)).toArray, below, meth, c), (D, ad, cs, dom)) a M K ⟨B.exec, B.bytes, hml, hown, hts, hN, hK, hI, B.notSynchronized, B.returns, rfl, rfl, hdm⟩ oM hsp).1 oM (okL_E oS) trivial s.heap [] ls hH va_S.rf hl2
/-- the words of a call of an instance method -/
def IV (own : String) (idx : Nat) (y : MethodName) (b : ByteArray) (mL : Nat) (rt : Option FieldType) (n : Nat) : Prop :=
  Cond.methodLink own idx y ∈ tb ∧ Cond.instanceMethod y ∈ tb ∧ Cond.selects y.cls y y ∈ tb ∧ Cond.initialized y.cls ∈ tb ∧ Cond.code y b mL rt ∈ tb ∧
  (y.cls ≠ "java/lang/invoke/MethodHandle" ∧ y.cls ≠ "java/lang/invoke/VarHandle" ∧ (parseMethodDescriptor y.desc).map (fun d => d.parameters.length) = some n)
def IS (own : String) (idx : Nat) (y : MethodName) (b : ByteArray) (mL : Nat) (rt : Option FieldType) (n : Nat) : Prop :=
  Cond.methodLink own idx y ∈ tb ∧ Cond.static y ∈ tb ∧ Cond.initialized y.cls ∈ tb ∧ Cond.code y b mL rt ∈ tb ∧
  (y.cls ≠ "java/lang/invoke/MethodHandle" ∧ y.cls ≠ "java/lang/invoke/VarHandle" ∧ (parseMethodDescriptor y.desc).map (fun d => d.parameters.length) = some n)
def RmOk (rm' rm : Room) (mL : Nat) : Prop := rm'.frames + 1 ≤ rm.frames ∧ 8 + (mL + 11) + rm'.locals ≤ rm.locals ∧ rm'.cells = 0 ∧ rm'.slots = 0
theorem rest_room {ad : AD} (st : List PV) (h : st.length ≤ 8) : ((st.map (emb ad)).map fun v => v.category).sum ≤ 8 := by
  have : ∀ l : List PV, ((l.map (emb ad)).map fun v => v.category).sum = l.length := by
    intro l
    induction l with
    | nil => rfl
    | cons a t ih => simp [emb_cat] at ih ⊢; omega
  rw [this]
  exact h
section VC
variable {κ : Kx} {own : String} {cc : ByteArray} {nL : Nat} {ret : Option FieldType} {rm : Room} {dom : Nat → Bool} {M : Mem} {pc : Nat} {lv : List (Option PV)} {st : List PV} {K : Kont}
theorem v_ran {H : Heap} {locs : List Loc} {ls : Array Slot} {st0 : List Value} {aa : Array Value} (oL : okL κ.2.2.2.2.2 lv) (oS : okS κ.2.2.2.2.2 st) (hS : va_S (frA κ.2.2.2.1 κ.2.2.2.2.2) κ.1.2.2.2.2.heap H locs) (hl : lv_has ls nL (prs κ.2.2.2.1 lv))
    {K1 : Kont} (kk : ∀ (x : Option Int) (M' : Mem), okM M' → (∀ z, x = some z → inR z) → K1 x M' → V κ nL M' (pc + 3) lv (pushR x st) K)
    (hr : va_Run κ.1.1 κ.1.2.1 κ.1.2.2.1 κ.1.2.2.2.1 κ.1.2.2.2.2 κ.2.1.1 κ.2.1.2.1 κ.2.1.2.2.1 κ.2.1.2.2.2.1 κ.2.1.2.2.2.2 H locs 0 0 0 0 (F0 κ.2.1.1 pc ls st0) (st.map (emb κ.2.2.2.1))
      (QcX κ.2.2.1 κ.2.2.2.1 κ.2.2.2.2.1 κ.2.2.2.2.2 K1 aa) (frA κ.2.2.2.1 κ.2.2.2.2.2)) :
    W κ.1.1 κ.1.2.1 κ.1.2.2.1 κ.1.2.2.2.1 κ.1.2.2.2.2 κ.2.1.1 κ.2.1.2.1 κ.2.1.2.2.1 κ.2.1.2.2.2.1 κ.2.1.2.2.2.2 H locs 0 0
      (MQ κ.2.1.2.2.1 (QcX κ.2.2.1 κ.2.2.2.1 κ.2.2.2.2.1 κ.2.2.2.2.2 K) κ.2.1.2.1 κ.1.2.2.2.2 0 0 (frA κ.2.2.2.1 κ.2.2.2.2.2)) (F0 κ.2.1.1 pc ls st0) := by
  intro T hT X
  obtain ⟨v, st₀, t, T', L, h0, X', hL, e1, e2, ⟨⟨r, M', hv, hin, oM', hk, hH'⟩, hz, hkp⟩, stp⟩ := hr T hT X
  rw [h0] at hz hkp
  have hS' : va_S (frA κ.2.2.2.1 κ.2.2.2.2.2) κ.1.2.2.2.2.heap T'.heap (locs ++ L) := by
    refine ⟨Nat.le_trans hS.1 (by rw [e1]; exact hz), fun q h1 h2 => ?_, fun q hq => ?_⟩
    · rw [e1, hkp q (Nat.lt_of_lt_of_le h1 hS.1) h2]
      exact hS.2.1 q h1 h2
    · rcases List.mem_append.mp hq with h | h
      · exact hS.2.2 q h
      · exact hL q h
  have oS' : okS κ.2.2.2.2.2 (pushR r st) := by
    cases r with
    | none => exact oS
    | some x => exact ⟨hin x rfl, oS⟩
  obtain ⟨t2, a1, b1⟩ := (kk r M' oM' hin hk).1 oM' oL oS' T'.heap (locs ++ L) ls (by rw [e1]; exact hH') hS' hl T' rfl X'
  refine ⟨t2, stp t2 ?_, b1⟩
  have ev : v = r.map fun x => .int (Int32.ofInt x) := by injection hv
  subst ev
  cases r with
  | none => exact a1
  | some x => exact a1
theorem v_invV {α : Type} {y : MethodName} {b : ByteArray} {mL : Nat} {rt : Option FieldType} {rm' : Room} {arg : α → List PV} {sp : α → Mem → Kont → Prop} (C : Cx κ own cc nL ret rm dom) (hM : Ct y b mL rt rm' dom arg sp) {idx n : Nat} (hd : decode cc pc = .ok (.invokevirtual idx, 3)) (hw : IV own idx y b mL rt n) (hR : RmOk rm' rm mL)
    (a : α) {r : Nat} {i : Int} {As : List PV} {ci : Nat} {T : u_T} {N : Nat} {st0 : List PV} (ha : arg a = .inr (r, i) :: As) (hn : As.length = n) (hk : kd r = ci) (hci : ci < 20) (hcl : classes[ci]? = some (y.cls, T, N)) (hst : st0 = As.reverse ++ .inr (r, i) :: st) (h8 : st.length ≤ 8)
    {K1 : Kont} (k : sp a M K1) (kk : ∀ (x : Option Int) (M' : Mem), okM M' → (∀ z, x = some z → inR z) → K1 x M' → V κ nL M' (pc + 3) lv (pushR x st) K) : V κ nL M pc lv st0 K := by
  refine ⟨?_, trivial⟩
  intro oM oL oS H locs ls hH hS hl
  subst hst
  obtain ⟨c1, c2, c3, c4, c5, c6, c7, c8, c9, c10, c11, c12, c13⟩ := id C
  have oAll : ∀ (l : List PV) (z : List PV), okS κ.2.2.2.2.2 (l ++ z) → okS κ.2.2.2.2.2 l ∧ okS κ.2.2.2.2.2 z := by
    intro l z
    induction l with
    | nil => intro h; exact ⟨trivial, h⟩
    | cons a t ih => intro h; exact ⟨⟨h.1, (ih h.2).1⟩, (ih h.2).2⟩
  have oRev : ∀ l : List PV, okS κ.2.2.2.2.2 l.reverse → okS κ.2.2.2.2.2 l := by
    have key : ∀ l : List PV, okS κ.2.2.2.2.2 l ↔ ∀ v ∈ l, okV κ.2.2.2.2.2 v := by
      intro l
      induction l with
      | nil => simp [okS]
      | cons a t ih => simp [okS, ih]
    intro l h
    rw [key] at h ⊢
    intro v hv
    exact h v (List.mem_reverse.mpr hv)
  obtain ⟨o1, o2, o3⟩ := oAll _ _ oS
  have oArg : okS κ.2.2.2.2.2 (arg a) := by rw [ha]; exact ⟨o2, oRev _ o1⟩
  have hMet := hM κ.1.2.1 κ.2.2.1 κ.2.2.2.1 κ.2.2.2.2.1 a M _ (by rw [← c12]; exact c8) oM (by rw [← c12]; exact oArg) k
  rw [← c12] at hMet
  refine v_ran (aa := (Value.ref (κ.2.2.2.1 r i) :: As.map (emb κ.2.2.2.1)).toArray) oL o3 hS hl kk ?_
  have hat := hH r i o2.1 o2.2.1 o2.2.2
  rw [ent_obj (by omega)] at hat
  obtain ⟨w1, w2, w3, w4, w5, w6⟩ := hw
  refine va_runV (bytes := b) (maxL := mL) (ret := rt) (C := y.cls) (As := As.map (emb κ.2.2.2.1)) (b := κ.2.2.2.1 r i) (rest := st.map (emb κ.2.2.2.1)) (n := n) ⟨c1, c2, c3, c4, c5⟩ hMet ?_ ⟨PcX_blind, ?_, ?_⟩ rfl (by rw [List.length_map]; exact hn) hl.1 ?_ (lv_room (rest_room st h8)) hd ⟨by omega, by omega⟩
  · rw [c11]
    refine cwV n c5 ?_ rfl hR.2.2.1 hR.2.2.2 ⟨rfl, w6⟩ ⟨hR.1, hR.2.1⟩
    intro w hw'
    rcases List.mem_append.mp hw' with h | h
    · have : w ∈ tb := by
        simp only [List.mem_cons, List.not_mem_nil, or_false] at h
        rcases h with h | h | h | h <;> subst h <;> assumption
      exact ⟨this, good_of_word (List.mem_filter.mp this).2⟩
    · exact good_tb (fun w h => h) w5 w h
  · obtain ⟨rr, h1', cell, q1, q2, q3, q4⟩ := hat
    dsimp only at h1' q1 q2 q3 q4
    rw [hk] at h1' q2
    exact ⟨cell, q1, by rw [q3]; rfl, by rw [q2]; exact (c7.1 ci _ hcl).2.1⟩
  · intro U hU hW
    refine ⟨?_, va_K.moved hW.alike c7, ⟨NWX.warm hW c6.1, SX.warm hW (fun q a b => by rw [hU]; exact hS.2.1 q a b) c6.2⟩, by rw [hU]; exact hH⟩
    rw [ha]
    rfl
  · show ((As.reverse ++ .inr (r, i) :: st).map (emb κ.2.2.2.1)) = _
    simp [emb]
theorem v_invS {α : Type} {y : MethodName} {b : ByteArray} {mL : Nat} {rt : Option FieldType} {rm' : Room} {arg : α → List PV} {sp : α → Mem → Kont → Prop} (C : Cx κ own cc nL ret rm dom) (hM : Ct y b mL rt rm' dom arg sp) {idx n : Nat} (hd : decode cc pc = .ok (.invokestatic idx, 3)) (hw : IS own idx y b mL rt n) (hR : RmOk rm' rm mL)
    (a : α) {st0 : List PV} (hn : (arg a).length = n) (hst : st0 = (arg a).reverse ++ st) (h8 : st.length ≤ 8)
    {K1 : Kont} (k : sp a M K1) (kk : ∀ (x : Option Int) (M' : Mem), okM M' → (∀ z, x = some z → inR z) → K1 x M' → V κ nL M' (pc + 3) lv (pushR x st) K) : V κ nL M pc lv st0 K := by
  refine ⟨?_, trivial⟩
  intro oM oL oS H locs ls hH hS hl
  subst hst
  obtain ⟨c1, c2, c3, c4, c5, c6, c7, c8, c9, c10, c11, c12, c13⟩ := id C
  have key : ∀ l : List PV, okS κ.2.2.2.2.2 l ↔ ∀ v ∈ l, okV κ.2.2.2.2.2 v := by
    intro l
    induction l with
    | nil => simp [okS]
    | cons a t ih => simp [okS, ih]
  have oArg : okS κ.2.2.2.2.2 (arg a) := by
    rw [key] at oS ⊢
    exact fun v hv => oS v (List.mem_append_left _ (List.mem_reverse.mpr hv))
  have o3 : okS κ.2.2.2.2.2 st := by
    rw [key] at oS ⊢
    exact fun v hv => oS v (List.mem_append_right _ hv)
  have hMet := hM κ.1.2.1 κ.2.2.1 κ.2.2.2.1 κ.2.2.2.2.1 a M _ (by rw [← c12]; exact c8) oM (by rw [← c12]; exact oArg) k
  rw [← c12] at hMet
  refine v_ran (aa := ((arg a).map (emb κ.2.2.2.1)).toArray) oL o3 hS hl kk ?_
  obtain ⟨w1, w2, w4, w5, w6⟩ := hw
  refine va_runS (bytes := b) (maxL := mL) (ret := rt) (As := (arg a).map (emb κ.2.2.2.1)) (rest := st.map (emb κ.2.2.2.1)) (n := n) ⟨c1, c2, c3, c4, c5⟩ hMet ?_ ⟨PcX_blind, ?_⟩ rfl (by rw [List.length_map]; exact hn) hl.1 ?_ (lv_room (rest_room st h8)) hd ⟨by omega, by omega⟩
  · rw [c11]
    exact ⟨callB_of n c5 (good_tb (fun w h => h) w5) rfl hR.2.2.1 hR.2.2.2 (c5 _ w4) (c5 _ w1) w6 ⟨hR.1, hR.2.1⟩, c5 _ w2⟩
  · intro U hU hW
    exact ⟨rfl, va_K.moved hW.alike c7, ⟨NWX.warm hW c6.1, SX.warm hW (fun q a b => by rw [hU]; exact hS.2.1 q a b) c6.2⟩, by rw [hU]; exact hH⟩
  · show (((arg a).reverse ++ st).map (emb κ.2.2.2.1)) = _
    simp
theorem v_nm {e : Int} (h : ∀ x : Int, x = e → V κ nL M pc lv (.inl x :: st) K) : V κ nL M pc lv (.inl e :: st) K := h e rfl
theorem v_nmM {e : Mem} (h : ∀ M' : Mem, M' = e → V κ nL M' pc lv st K) : V κ nL e pc lv st K := h e rfl
theorem v_push {x : Int} (h : V κ nL M pc lv (.inl x :: st) K) : V κ nL M pc lv (pushR (some x) st) K := h
theorem v_push0 (h : V κ nL M pc lv st K) : V κ nL M pc lv (pushR none st) K := h
/-- Math.min, Math.max -/
def IMin (own : String) (idx : Nat) : Prop := Cond.methodLink own idx Lib.Math.min.name ∈ tb ∧ Cond.static Lib.Math.min.name ∈ tb ∧ Cond.initialized "java/lang/Math" ∈ tb ∧ Cond.code Lib.Math.min.name Lib.Math.min.code 2 (some .int) ∈ tb
def IMax (own : String) (idx : Nat) : Prop := Cond.methodLink own idx Lib.Math.max.name ∈ tb ∧ Cond.static Lib.Math.max.name ∈ tb ∧ Cond.initialized "java/lang/Math" ∈ tb ∧ Cond.code Lib.Math.max.name Lib.Math.max.code 2 (some .int) ∈ tb
theorem v_min (C : Cx κ own cc nL ret rm dom) {idx : Nat} {x y : Int} (hd : decode cc pc = .ok (.invokestatic idx, 3)) (hw : IMin own idx) (h8 : st.length ≤ 8) (hR : 1 ≤ rm.frames ∧ 21 ≤ rm.locals) (k : V κ nL M (pc + 3) lv (.inl (min x y) :: st) K) : V κ nL M pc lv (.inl y :: .inl x :: st) K := by
  refine ⟨?_, trivial⟩
  intro oM oL oS H locs ls hH hS hl
  obtain ⟨hy, hx, oS⟩ := oS
  have hx : inR x := hx
  have hy : inR y := hy
  obtain ⟨c1, c2, c3, c4, c5, c6, c7, c8, c9, c10, c11, c12, c13⟩ := id C
  have hm : inR (min x y) := by omega
  have h := k.1 oM oL ⟨hm, oS⟩ H locs ls hH hS hl
  have hrr := rest_room (ad := κ.2.2.2.1) st h8
  refine va_mmin c1 c2 (by rw [c3]; exact hl.1.symm) c4 (c5 _ hw.1) (c5 _ hw.2.1) (c5 _ hw.2.2.1) (c5 _ hw.2.2.2) (by rw [c11]; exact hR.1) (by rw [c11]; have := hR.2; omega) (Nat.zero_le _) (Nat.zero_le _) hd ?_
  have e : (if Int32.ofInt y < Int32.ofInt x then Int32.ofInt y else Int32.ofInt x) = Int32.ofInt (min x y) := by
    by_cases hc : y < x
    · rw [if_pos ((oi_lt hy hx).mpr hc)]
      congr 1
      omega
    · rw [if_neg (fun z => hc ((oi_lt hy hx).mp z))]
      congr 1
      omega
  rw [e]
  exact h
theorem v_max (C : Cx κ own cc nL ret rm dom) {idx : Nat} {x y : Int} (hd : decode cc pc = .ok (.invokestatic idx, 3)) (hw : IMax own idx) (h8 : st.length ≤ 8) (hR : 1 ≤ rm.frames ∧ 21 ≤ rm.locals) (k : V κ nL M (pc + 3) lv (.inl (max x y) :: st) K) : V κ nL M pc lv (.inl y :: .inl x :: st) K := by
  refine ⟨?_, trivial⟩
  intro oM oL oS H locs ls hH hS hl
  obtain ⟨hy, hx, oS⟩ := oS
  have hx : inR x := hx
  have hy : inR y := hy
  obtain ⟨c1, c2, c3, c4, c5, c6, c7, c8, c9, c10, c11, c12, c13⟩ := id C
  have hm : inR (max x y) := by omega
  have h := k.1 oM oL ⟨hm, oS⟩ H locs ls hH hS hl
  have hrr := rest_room (ad := κ.2.2.2.1) st h8
  refine va_mmax c1 c2 (by rw [c3]; exact hl.1.symm) c4 (c5 _ hw.1) (c5 _ hw.2.1) (c5 _ hw.2.2.1) (c5 _ hw.2.2.2) (by rw [c11]; exact hR.1) (by rw [c11]; have := hR.2; omega) (Nat.zero_le _) (Nat.zero_le _) hd ?_
  have e : (if Int32.ofInt x < Int32.ofInt y then Int32.ofInt y else Int32.ofInt x) = Int32.ofInt (max x y) := by
    by_cases hc : x < y
    · rw [if_pos ((oi_lt hx hy).mpr hc)]
      congr 1
      omega
    · rw [if_neg (fun z => hc ((oi_lt hx hy).mp z))]
      congr 1
      omega
  rw [e]
  exact h
end VC
def rI (F : Int → Mem → Prop) : Kont := fun o M => match o with
  | some x => F x M
  | none => False
def rV (F : Mem → Prop) : Kont := fun o M => match o with
  | some _ => False
  | none => F M
theorem rI_out {F : Int → Mem → Prop} {o : Option Int} {M : Mem} (h : rI F o M) : ∃ x, o = some x ∧ F x M := by
  cases o with
  | none => exact h.elim
  | some x => exact ⟨x, rfl, h⟩
theorem rV_out {F : Mem → Prop} {o : Option Int} {M : Mem} (h : rV F o M) : o = none ∧ F M := by
  cases o with
  | none => exact ⟨rfl, h⟩
  | some x => exact h.elim
abbrev domC : Nat → Bool := fun r => Nat.blt r 24
abbrev domM : Nat → Bool := fun r => Nat.ble 30 r
theorem dmC : Dm domC := Or.inl rfl
theorem dmM : Dm domM := Or.inr rfl
end
section
/-! ===== String: isLatin1, coder, length, charAt, indexOf on the texts of the class: they change nothing ===== -/
abbrev Ks : Type := (Program × Launch × Env × Room × State) × (MethodId × Array Value × List Frame × Method × Code)
def QcS (r : Option Int32) : Array Value → State → Outcome → State → Prop := fun _ st o t => o = .returned (r.map fun x => .int x) ∧ t.heap = st.heap
def Cs (κ : Ks) (own : String) (cc : ByteArray) (nL : Nat) (ret : Option FieldType) (rm : Room) (adK adV : Nat → Nat) (A : Nat → Prop) : Prop :=
  κ.1.1.tables.exec = Jvm.exec ∧ κ.2.2.2.2.2.code = cc ∧ κ.2.2.2.2.2.maxLocals = nL ∧ κ.1.2.2.2.2.vm.findClass own = some κ.2.1.cls ∧ (∀ w ∈ tb, w.before κ.2.2.1 κ.1.2.2.2.2 = true) ∧ SY adK adV A κ.1.2.2.2.2 ∧ κ.2.2.2.2.1.locks = false ∧ κ.2.2.2.2.1.sig.returnType = ret ∧ κ.1.2.2.2.1 = rm
def SJ (κ : Ks) (nL pc : Nat) (lv : List (Nat × Value)) (st : List Value) (r : Option Int32) : Prop :=
  (∀ ls : Array Slot, lv_has ls nL lv → W κ.1.1 κ.1.2.1 κ.1.2.2.1 κ.1.2.2.2.1 κ.1.2.2.2.2 κ.2.1 κ.2.2.1 κ.2.2.2.1 κ.2.2.2.2.1 κ.2.2.2.2.2 κ.1.2.2.2.2.heap [] 0 0 (MQ κ.2.2.2.1 (QcS r) κ.2.2.1 κ.1.2.2.2.2 0 0 (fun _ => False)) (F0 κ.2.1 pc ls st)) ∧ True
def CtS (y : MethodName) (b : ByteArray) (mL : Nat) (rt : Option FieldType) (rm : Room) (adK adV : Nat → Nat) (A : Nat → Prop) (as : List Value) (r : Option Int32) : Prop :=
  ∀ l : Launch, Met l y (Cond.code y b mL rt :: tb) rm (va_Pc as (fun U => SY adK adV A U)) (QcS r) 0 0 (fun _ => False)
theorem PcS_blind {adK adV : Nat → Nat} {A : Nat → Prop} {as : List Value} : FrameBlind (va_Pc as (fun U => SY adK adV A U)) := by
  intro a U g mk h
  exact ⟨h.1, SY.same (u := U) (U := U.calling g mk a) rfl rfl h.2⟩
theorem cs_of {y : MethodName} {b : ByteArray} {mL : Nat} {rt : Option FieldType} {rm : Room} {adK adV : Nat → Nat} {A : Nat → Prop} {as : List Value} {r : Option Int32} (hy : plainName y.cls = true) (hlen : (lg_sl as).length ≤ mL)
    (h : ∀ κ : Ks, Cs κ y.cls b mL rt rm adK adV A → SJ κ mL 0 (lv_args 0 as) [] r) : CtS y b mL rt rm adK adV A as r := by
  intro l
  refine Met.ofW (cc := b) (maxL := mL) (ret := rt) hy rfl ?_
  intro p e s m args below meth c s₁ B hml hv
  obtain ⟨rfl, hY⟩ := hv
  have hts : ∀ w ∈ tb, w.before as.toArray s = true := fun w hw => atoms_spec (ws := Cond.code y b mL rt :: tb) B.pre w (List.mem_cons_of_mem _ hw)
  have hown : s.vm.findClass y.cls = some m.cls := findClass_of_methodNamed B.named
  have hl := lv_entry as (n := mL) hlen
  rw [lg_entry_eq]
  generalize (lg_sl as ++ List.replicate (mL - (lg_sl as).length) Slot.unset).toArray = ls at hl ⊢
  exact (h ((p, l, e, (headSpec (Cond.code y b mL rt :: tb) rm).room, s), (m, as.toArray, below, meth, c)) ⟨B.exec, B.bytes, hml, hown, hts, hY, B.notSynchronized, B.returns, rfl⟩).1 ls hl
section SR0
variable {κ : Ks} {own : String} {cc : ByteArray} {nL : Nat} {ret : Option FieldType} {rm : Room} {adK adV : Nat → Nat} {A : Nat → Prop} {pc : Nat} {lv : List (Nat × Value)} {st : List Value} {r : Option Int32}
theorem s_iconst (C : Cs κ own cc nL ret rm adK adV A) {n : Int} {v : Int32} (hd : decode cc pc = .ok (.iconst n, 1)) (hv : Int32.ofInt n = v) (k : SJ κ nL (pc + 1) lv (.int v :: st) r) : SJ κ nL pc lv st r := ⟨fun ls hl => lv_iconst C.1 C.2.1 hd hv (k.1 ls hl), trivial⟩
theorem s_sipush (C : Cs κ own cc nL ret rm adK adV A) {n : Int} {v : Int32} (hd : decode cc pc = .ok (.sipush n, 3)) (hv : (Int16.ofInt n).toInt32 = v) (k : SJ κ nL (pc + 3) lv (.int v :: st) r) : SJ κ nL pc lv st r := ⟨fun ls hl => lv_sipush C.1 C.2.1 hd hv (k.1 ls hl), trivial⟩
theorem s_aload_n (C : Cs κ own cc nL ret rm adK adV A) {i : Fin 4} {a : Nat} (hd : decode cc pc = .ok (.aload_n i, 1)) (q : Nat) (hv : lv[q]? = some (i.val, .ref a)) (k : SJ κ nL (pc + 1) lv (.ref a :: st) r) : SJ κ nL pc lv st r := ⟨fun ls hl => lv_aload_n C.1 C.2.1 hd rfl (lv_at hl q hv) (k.1 ls hl), trivial⟩
theorem s_iload_n (C : Cs κ own cc nL ret rm adK adV A) {i : Fin 4} {x : Int32} (hd : decode cc pc = .ok (.iload_n i, 1)) (q : Nat) (hv : lv[q]? = some (i.val, .int x)) (k : SJ κ nL (pc + 1) lv (.int x :: st) r) : SJ κ nL pc lv st r := ⟨fun ls hl => lv_iload_n C.1 C.2.1 hd rfl (lv_at hl q hv) (k.1 ls hl), trivial⟩
theorem s_iload (C : Cs κ own cc nL ret rm adK adV A) {i : Nat} {x : Int32} (hd : decode cc pc = .ok (.iload i, 2)) (q : Nat) (hv : lv[q]? = some (i, .int x)) (k : SJ κ nL (pc + 2) lv (.int x :: st) r) : SJ κ nL pc lv st r := ⟨fun ls hl => lv_iload C.1 C.2.1 hd (lv_at hl q hv) (k.1 ls hl), trivial⟩
theorem s_istore (C : Cs κ own cc nL ret rm adK adV A) {i : Nat} {x : Int32} {lv' : List (Nat × Value)} (hd : decode cc pc = .ok (.istore i, 2)) (hi : i < nL) (hv : (i, Value.int x) :: lv.filter (fun q => !(q.1 == i) && !(q.1 + 1 == i && q.2.category == 2)) = lv') (k : SJ κ nL (pc + 2) lv' st r) : SJ κ nL pc lv (.int x :: st) r := ⟨fun ls hl => lv_istore C.1 C.2.1 hd hl hi hv (fun ls' hl' => k.1 ls' hl'), trivial⟩
theorem s_istore_n (C : Cs κ own cc nL ret rm adK adV A) {i : Fin 4} {x : Int32} {lv' : List (Nat × Value)} (hd : decode cc pc = .ok (.istore_n i, 1)) (hi : i.val < nL) (hv : (i.val, Value.int x) :: lv.filter (fun q => !(q.1 == i.val) && !(q.1 + 1 == i.val && q.2.category == 2)) = lv') (k : SJ κ nL (pc + 1) lv' st r) : SJ κ nL pc lv (.int x :: st) r := ⟨fun ls hl => lv_istore_n C.1 C.2.1 hd rfl hl hi hv (fun ls' hl' => k.1 ls' hl'), trivial⟩
theorem s_iinc (C : Cs κ own cc nL ret rm adK adV A) {i : Nat} {n : Int} {x v : Int32} {lv' : List (Nat × Value)} (hd : decode cc pc = .ok (.iinc i n, 3)) (q : Nat) (hq : lv[q]? = some (i, .int x)) (hx : x + Int32.ofInt n = v) (hi : i < nL) (hv : (i, Value.int v) :: lv.filter (fun q => !(q.1 == i) && !(q.1 + 1 == i && q.2.category == 2)) = lv') (k : SJ κ nL (pc + 3) lv' st r) : SJ κ nL pc lv st r := ⟨fun ls hl => lv_iinc C.1 C.2.1 hd hl hq hx hi hv (fun ls' hl' => k.1 ls' hl'), trivial⟩
theorem s_goto (C : Cs κ own cc nL ret rm adK adV A) {off : Int} {tgt : Nat} (hd : decode cc pc = .ok (.goto off, 3)) (ht : (pc : Int) + off = (tgt : Int)) (k : SJ κ nL tgt lv st r) : SJ κ nL pc lv st r := ⟨fun ls hl => lv_goto C.1 C.2.1 hd ht (k.1 ls hl), trivial⟩
theorem s_pop (C : Cs κ own cc nL ret rm adK adV A) {x : Int32} (hd : decode cc pc = .ok (.pop, 1)) (k : SJ κ nL (pc + 1) lv st r) : SJ κ nL pc lv (.int x :: st) r := ⟨fun ls hl => lv_pop C.1 C.2.1 hd rfl (k.1 ls hl), trivial⟩
theorem s_ishr (C : Cs κ own cc nL ret rm adK adV A) {x y : Int32} (hd : decode cc pc = .ok (.ishr, 1)) (k : SJ κ nL (pc + 1) lv (.int (x >>> (y &&& 31)) :: st) r) : SJ κ nL pc lv (.int y :: .int x :: st) r := ⟨fun ls hl => lv_ishr C.1 C.2.1 hd (k.1 ls hl), trivial⟩
theorem s_iand (C : Cs κ own cc nL ret rm adK adV A) {x y : Int32} (hd : decode cc pc = .ok (.iand, 1)) (k : SJ κ nL (pc + 1) lv (.int (x &&& y) :: st) r) : SJ κ nL pc lv (.int y :: .int x :: st) r := ⟨fun ls hl => lv_iand C.1 C.2.1 hd (k.1 ls hl), trivial⟩
theorem s_i2b (C : Cs κ own cc nL ret rm adK adV A) {x v : Int32} (hd : decode cc pc = .ok (.i2b, 1)) (hv : x.toInt8.toInt32 = v) (k : SJ κ nL (pc + 1) lv (.int v :: st) r) : SJ κ nL pc lv (.int x :: st) r := ⟨fun ls hl => lv_i2b C.1 C.2.1 hd hv (k.1 ls hl), trivial⟩
theorem s_i2c (C : Cs κ own cc nL ret rm adK adV A) {x v : Int32} (hd : decode cc pc = .ok (.i2c, 1)) (hv : (x.toUInt32 % 65536).toInt32 = v) (k : SJ κ nL (pc + 1) lv (.int v :: st) r) : SJ κ nL pc lv (.int x :: st) r := ⟨fun ls hl => lv_i2c C.1 C.2.1 hd hv (k.1 ls hl), trivial⟩
theorem s_if_eq (C : Cs κ own cc nL ret rm adK adV A) {x : Int32} {off : Int} {tgt : Nat} (hd : decode cc pc = .ok (.ifCond .eq off, 3)) (ht : (pc : Int) + off = (tgt : Int)) (kt : x = 0 → SJ κ nL tgt lv st r) (kf : ¬ (x = 0) → SJ κ nL (pc + 3) lv st r) : SJ κ nL pc lv (.int x :: st) r := ⟨fun ls hl => lv_if_eq C.1 C.2.1 hd ht (fun h => (kt h).1 ls hl) (fun h => (kf (by simpa using h)).1 ls hl), trivial⟩
theorem s_if_ne (C : Cs κ own cc nL ret rm adK adV A) {x : Int32} {off : Int} {tgt : Nat} (hd : decode cc pc = .ok (.ifCond .ne off, 3)) (ht : (pc : Int) + off = (tgt : Int)) (kt : ¬ x = 0 → SJ κ nL tgt lv st r) (kf : ¬ (¬ x = 0) → SJ κ nL (pc + 3) lv st r) : SJ κ nL pc lv (.int x :: st) r := ⟨fun ls hl => lv_if_ne C.1 C.2.1 hd ht (fun h => (kt h).1 ls hl) (fun h => (kf (by simpa using h)).1 ls hl), trivial⟩
theorem s_if_lt (C : Cs κ own cc nL ret rm adK adV A) {x : Int32} {off : Int} {tgt : Nat} (hd : decode cc pc = .ok (.ifCond .lt off, 3)) (ht : (pc : Int) + off = (tgt : Int)) (kt : x < 0 → SJ κ nL tgt lv st r) (kf : ¬ (x < 0) → SJ κ nL (pc + 3) lv st r) : SJ κ nL pc lv (.int x :: st) r := ⟨fun ls hl => lv_if_lt C.1 C.2.1 hd ht (fun h => (kt h).1 ls hl) (fun h => (kf (by simpa using h)).1 ls hl), trivial⟩
theorem s_icmp_lt (C : Cs κ own cc nL ret rm adK adV A) {x y : Int32} {off : Int} {tgt : Nat} (hd : decode cc pc = .ok (.if_icmp .lt off, 3)) (ht : (pc : Int) + off = (tgt : Int)) (kt : x < y → SJ κ nL tgt lv st r) (kf : ¬ (x < y) → SJ κ nL (pc + 3) lv st r) : SJ κ nL pc lv (.int y :: .int x :: st) r := ⟨fun ls hl => lv_icmp_lt C.1 C.2.1 hd ht (fun h => (kt h).1 ls hl) (fun h => (kf (by simpa using h)).1 ls hl), trivial⟩
theorem s_icmp_ge (C : Cs κ own cc nL ret rm adK adV A) {x y : Int32} {off : Int} {tgt : Nat} (hd : decode cc pc = .ok (.if_icmp .ge off, 3)) (ht : (pc : Int) + off = (tgt : Int)) (kt : y ≤ x → SJ κ nL tgt lv st r) (kf : ¬ (y ≤ x) → SJ κ nL (pc + 3) lv st r) : SJ κ nL pc lv (.int y :: .int x :: st) r := ⟨fun ls hl => lv_icmp_ge C.1 C.2.1 hd ht (fun h => (kt h).1 ls hl) (fun h => (kf (by simpa using h)).1 ls hl), trivial⟩
theorem s_icmp_ne (C : Cs κ own cc nL ret rm adK adV A) {x y : Int32} {off : Int} {tgt : Nat} (hd : decode cc pc = .ok (.if_icmp .ne off, 3)) (ht : (pc : Int) + off = (tgt : Int)) (kt : ¬ x = y → SJ κ nL tgt lv st r) (kf : ¬ (¬ x = y) → SJ κ nL (pc + 3) lv st r) : SJ κ nL pc lv (.int y :: .int x :: st) r := ⟨fun ls hl => lv_icmp_ne C.1 C.2.1 hd ht (fun h => (kt h).1 ls hl) (fun h => (kf (by simpa using h)).1 ls hl), trivial⟩
theorem s_icmp_gt (C : Cs κ own cc nL ret rm adK adV A) {x y : Int32} {off : Int} {tgt : Nat} (hd : decode cc pc = .ok (.if_icmp .gt off, 3)) (ht : (pc : Int) + off = (tgt : Int)) (kt : y < x → SJ κ nL tgt lv st r) (kf : ¬ (y < x) → SJ κ nL (pc + 3) lv st r) : SJ κ nL pc lv (.int y :: .int x :: st) r := ⟨fun ls hl => lv_icmp_gt C.1 C.2.1 hd ht (fun h => (kt h).1 ls hl) (fun h => (kf (by simpa using h)).1 ls hl), trivial⟩
theorem s_val (C : Cs κ "java/lang/String" cc nL ret rm adK adV A) {i : Nat} (hi : i < 2) (hd : decode cc pc = .ok (.getfield 9, 3)) (hw : Cond.fieldLink "java/lang/String" 9 "java/lang/String" "value" "[B" ∈ tb) (k : SJ κ nL (pc + 3) lv (.ref (adV i) :: st) r) : SJ κ nL pc lv (.ref (adK i) :: st) r :=
  ⟨fun ls hl => vk_getf C.1 C.2.1 (C.2.2.2.2.2.1.1.1 i hi).2.2.1 va_S.rf C.2.2.2.1 (C.2.2.2.2.1 _ hw) (fun _ h => h) hd (k.1 ls hl), trivial⟩
theorem s_cod (C : Cs κ "java/lang/String" cc nL ret rm adK adV A) {i : Nat} (hi : i < 2) (hd : decode cc pc = .ok (.getfield 15, 3)) (hw : Cond.fieldLink "java/lang/String" 15 "java/lang/String" "coder" "B" ∈ tb) (k : SJ κ nL (pc + 3) lv (.int 0 :: st) r) : SJ κ nL pc lv (.ref (adK i) :: st) r :=
  ⟨fun ls hl => vk_getf C.1 C.2.1 (C.2.2.2.2.2.1.1.1 i hi).2.1 va_S.rf C.2.2.2.1 (C.2.2.2.2.1 _ hw) (fun _ h => h) hd (k.1 ls hl), trivial⟩
theorem s_cs (C : Cs κ "java/lang/String" cc nL ret rm adK adV A) (hd : decode cc pc = .ok (.getstatic 38, 3)) (hw : Cond.fieldLink "java/lang/String" 38 "java/lang/String" "COMPACT_STRINGS" "Z" ∈ tb) (k : SJ κ nL (pc + 3) lv (.int 1 :: st) r) : SJ κ nL pc lv st r :=
  ⟨fun ls hl => va_gets C.1 C.2.1 C.2.2.2.2.2.1.2.1 va_S.rf C.2.2.2.1 (C.2.2.2.2.1 _ hw) (fun _ h => h) hd (k.1 ls hl), trivial⟩
theorem s_fmt (C : Cs κ "java/lang/String" cc nL ret rm adK adV A) (hd : decode cc pc = .ok (.getstatic 1053, 3)) (hw : Cond.fieldLink "java/lang/String" 1053 "jdk/internal/util/Preconditions" "SIOOBE_FORMATTER" "Ljava/util/function/BiFunction;" ∈ tb) (k : ∀ v : Value, v.category = 1 → SJ κ nL (pc + 3) lv (v :: st) r) : SJ κ nL pc lv st r := by
  refine ⟨fun ls hl => ?_, trivial⟩
  rcases C.2.2.2.2.2.1.2.2.1 with h | ⟨t, h⟩
  · exact va_gets C.1 C.2.1 h va_S.rf C.2.2.2.1 (C.2.2.2.2.1 _ hw) (fun _ h => h) hd ((k _ rfl).1 ls hl)
  · exact va_gets C.1 C.2.1 h va_S.rf C.2.2.2.1 (C.2.2.2.2.1 _ hw) (fun _ h => h) hd ((k _ rfl).1 ls hl)
theorem s_alen (C : Cs κ own cc nL ret rm adK adV A) {i : Nat} (hi : i < 2) {v : Int32} (hv : Int32.ofNat (sLen.getD i 0) = v) (hd : decode cc pc = .ok (.arraylength, 1)) (k : SJ κ nL (pc + 1) lv (.int v :: st) r) : SJ κ nL pc lv (.ref (adV i) :: st) r :=
  ⟨fun ls hl => va_tlen C.1 C.2.1 (C.2.2.2.2.2.1.1.1 i hi).2.2.2 va_S.rf hv hd (k.1 ls hl), trivial⟩
theorem s_bald (C : Cs κ own cc nL ret rm adK adV A) {i : Nat} (hi : i < 2) {j : Int32} (hj : vp_in j (sLen.getD i 0)) (hd : decode cc pc = .ok (.baload, 1)) (k : SJ κ nL (pc + 1) lv (.int ((sByt.getD i []).getD j.toNatClampNeg 0) :: st) r) : SJ κ nL pc lv (.int j :: .ref (adV i) :: st) r :=
  ⟨fun ls hl => va_tb C.1 C.2.1 (C.2.2.2.2.2.1.1.1 i hi).2.2.2 va_S.rf hj rfl hd (k.1 ls hl), trivial⟩
theorem s_iret (C : Cs κ own cc nL (some .int) rm adK adV A) {x : Int32} (hd : decode cc pc = .ok (.ireturn, 1)) : SJ κ nL pc lv [.int x] (some x) :=
  ⟨fun ls hl => W.iret C.1 C.2.1 C.2.2.2.2.2.2.2.1 (fun t ht hW => ⟨rfl, ht⟩) (fun q hq => absurd hq List.not_mem_nil) hd C.2.2.2.2.2.2.1, trivial⟩
theorem s_zret {ty : FieldType} (C : Cs κ own cc nL (some ty) rm adK adV A) {x : Int32} (hn : narrow ty (.int x) = .int x) (hd : decode cc pc = .ok (.ireturn, 1)) : SJ κ nL pc lv [.int x] (some x) :=
  ⟨fun ls hl => W.zret C.1 C.2.1 C.2.2.2.2.2.2.2.1 hn (fun t ht hW => ⟨rfl, ht⟩) (fun q hq => absurd hq List.not_mem_nil) hd C.2.2.2.2.2.2.1, trivial⟩
theorem s_vret (C : Cs κ own cc nL none rm adK adV A) (hd : decode cc pc = .ok (.return_, 1)) : SJ κ nL pc lv [] none :=
  ⟨fun ls hl => W.vret C.1 C.2.1 C.2.2.2.2.2.2.2.1 (fun t ht hW => ⟨rfl, ht⟩) (fun q hq => absurd hq List.not_mem_nil) hd C.2.2.2.2.2.2.1, trivial⟩
theorem w_ranS {p : Program} {l : Launch} {e : Env} {R : Room} {s : State} {m : MethodId} {args : Array Value} {below : List Frame} {meth : Method} {c : Code} {H : Heap} {locs : List Loc} {cells slots : Nat} {Q : State → Prop} {ls : Array Slot} {st0 rest : List Value} {pc : Nat} {r1 : Option Int32} {aa : Array Value}
    (hr : va_Run p l e R s m args below meth c H locs cells slots 0 0 (F0 m pc ls st0) rest (QcS r1 aa) (fun _ => False)) (kk : W p l e R s m args below meth c H locs cells slots Q (F0 m (pc + 3) ls ((r1.map fun x => Value.int x).toList ++ rest))) : W p l e R s m args below meth c H locs cells slots Q (F0 m pc ls st0) := by
  intro T hT X
  obtain ⟨v, st₀, t, T', L, h0, X', hL, e1, e2, ⟨hv, hh⟩, stp⟩ := hr T hT X
  have eL : L = [] := by
    cases L with
    | nil => rfl
    | cons a b => exact (hL a List.mem_cons_self).elim
  subst eL
  rw [List.append_nil] at X'
  obtain ⟨t2, a1, b1⟩ := kk T' (by rw [e1, hh, h0]) X'
  have ev : v = r1.map fun x => .int x := by injection hv
  subst ev
  exact ⟨t2, stp t2 a1, b1⟩
theorem w_invVS {p : Program} {l : Launch} {e : Env} {R : Room} {s : State} {m : MethodId} {args : Array Value} {below : List Frame} {meth : Method} {c : Code} {H : Heap} {locs : List Loc} {cells slots : Nat} {Q : State → Prop} {ls : Array Slot} {rest As : List Value} {A0 : Nat → Prop} {y : MethodName} {b : ByteArray} {mL : Nat} {rt : Option FieldType} {rm' : Room} {r1 : Option Int32} {i idx n : Nat}
    (c1 : p.tables.exec = Jvm.exec) (c2 : c.code = cc) (c3 : c.maxLocals = nL) (c4 : s.vm.findClass own = some m.cls) (c5 : ∀ w ∈ tb, w.before args s = true) (hY : SY adK adV A0 s) (hS : va_S A0 s.heap H locs) (hi : i < 2) (hy : y.cls = "java/lang/String") (hM : CtS y b mL rt rm' adK adV A0 (.ref (adK i) :: As) r1) (hd : decode cc pc = .ok (.invokevirtual idx, 3)) (hw : IV own idx y b mL rt n) (hR : RmOk rm' R mL) (hn : As.length = n) (hls : ls.size = nL) (h8 : (rest.map fun v => v.category).sum ≤ 8) (hc : cells ≤ R.cells ∧ slots ≤ R.slots)
    (kk : W p l e R s m args below meth c H locs cells slots Q (F0 m (pc + 3) ls ((r1.map fun x => Value.int x).toList ++ rest))) : W p l e R s m args below meth c H locs cells slots Q (F0 m pc ls (As.reverse ++ .ref (adK i) :: rest)) := by
  obtain ⟨w1, w2, w3, w4, w5, w6⟩ := hw
  refine w_ranS (aa := (Value.ref (adK i) :: As).toArray) (va_runV (bytes := b) (maxL := mL) (ret := rt) (C := y.cls) (As := As) (b := adK i) (rest := rest) (n := n) ⟨c1, c2, c3, c4, c5⟩ (hM l) ?_ ⟨PcS_blind, ?_, ?_⟩ rfl hn hls rfl (lv_room h8) hd ⟨by omega, by omega⟩) kk
  · refine cwV n c5 ?_ rfl hR.2.2.1 hR.2.2.2 ⟨rfl, w6⟩ ⟨hR.1, hR.2.1⟩
    intro w hw'
    rcases List.mem_append.mp hw' with h | h
    · have : w ∈ tb := by
        simp only [List.mem_cons, List.not_mem_nil, or_false] at h
        rcases h with h | h | h | h <;> subst h <;> assumption
      exact ⟨this, good_of_word (List.mem_filter.mp this).2⟩
    · exact good_tb (fun w h => h) w5 w h
  · rw [hy]
    exact vk_recv hY.1 hi hS
  · intro U hU hW
    exact ⟨rfl, hY.warm hW (fun q a b => by rw [hU]; exact hS.2.1 q a b)⟩
theorem s_invV (C : Cs κ own cc nL ret rm adK adV A) {y : MethodName} {b : ByteArray} {mL : Nat} {rt : Option FieldType} {rm' : Room} {r1 : Option Int32} {i idx n : Nat} {As st0 : List Value} (hi : i < 2) (hy : y.cls = "java/lang/String") (hM : CtS y b mL rt rm' adK adV A (.ref (adK i) :: As) r1) (hd : decode cc pc = .ok (.invokevirtual idx, 3)) (hw : IV own idx y b mL rt n) (hR : RmOk rm' rm mL) (hn : As.length = n) (hst : st0 = As.reverse ++ .ref (adK i) :: st) (h8 : (st.map fun v => v.category).sum ≤ 8)
    (k : SJ κ nL (pc + 3) lv ((r1.map fun x => Value.int x).toList ++ st) r) : SJ κ nL pc lv st0 r := by
  subst hst
  refine ⟨fun ls hl => ?_, trivial⟩
  have hR' : RmOk rm' κ.1.2.2.2.1 mL := by rw [C.2.2.2.2.2.2.2.2]; exact hR
  exact w_invVS C.1 C.2.1 C.2.2.1 C.2.2.2.1 C.2.2.2.2.1 C.2.2.2.2.2.1 va_S.rf hi hy hM hd hw hR' hn hl.1 h8 ⟨Nat.zero_le _, Nat.zero_le _⟩ (k.1 ls hl)
theorem s_invS (C : Cs κ own cc nL ret rm adK adV A) {y : MethodName} {b : ByteArray} {mL : Nat} {rt : Option FieldType} {rm' : Room} {r1 : Option Int32} {idx n : Nat} {As st0 : List Value} (hM : CtS y b mL rt rm' adK adV A As r1) (hd : decode cc pc = .ok (.invokestatic idx, 3)) (hw : IS own idx y b mL rt n) (hR : RmOk rm' rm mL) (hn : As.length = n) (hst : st0 = As.reverse ++ st) (h8 : (st.map fun v => v.category).sum ≤ 8)
    (k : SJ κ nL (pc + 3) lv ((r1.map fun x => Value.int x).toList ++ st) r) : SJ κ nL pc lv st0 r := by
  subst hst
  refine ⟨fun ls hl => ?_, trivial⟩
  obtain ⟨c1, c2, c3, c4, c5, c6, c7, c8, c9⟩ := id C
  obtain ⟨w1, w2, w4, w5, w6⟩ := hw
  refine w_ranS (aa := As.toArray) (va_runS (bytes := b) (maxL := mL) (ret := rt) (As := As) (rest := st) (n := n) ⟨c1, c2, c3, c4, c5⟩ (hM κ.1.2.1) ?_ ⟨PcS_blind, ?_⟩ rfl hn hl.1 rfl (lv_room h8) hd ⟨by omega, by omega⟩) (k.1 ls hl)
  · rw [c9]
    exact ⟨callB_of n c5 (good_tb (fun w h => h) w5) rfl hR.2.2.1 hR.2.2.2 (c5 _ w4) (c5 _ w1) w6 ⟨hR.1, hR.2.1⟩, c5 _ w2⟩
  · intro U hU hW
    exact ⟨rfl, c6.warm hW (fun q a b => by rw [hU])⟩
end SR0
end
section
/-! ===== String's methods, walked: isLatin1, coder, length, charAt, indexOf ===== -/
abbrev rmS (f l : Nat) : Room := { frames := f, cells := 0, slots := 0, locals := l }
section SR1
variable {κ : Ks} {own : String} {cc : ByteArray} {nL : Nat} {ret : Option FieldType} {rm : Room} {adK adV : Nat → Nat} {A : Nat → Prop} {pc : Nat} {lv : List (Nat × Value)} {st : List Value} {r : Option Int32}
theorem s_invV1 (C : Cs κ own cc nL ret rm adK adV A) {y : MethodName} {b : ByteArray} {mL : Nat} {rt : Option FieldType} {rm' : Room} {x : Int32} {i idx n : Nat} {As st0 : List Value} (hi : i < 2) (hy : y.cls = "java/lang/String") (hM : CtS y b mL rt rm' adK adV A (.ref (adK i) :: As) (some x)) (hd : decode cc pc = .ok (.invokevirtual idx, 3)) (hw : IV own idx y b mL rt n) (hR : RmOk rm' rm mL) (hn : As.length = n) (hst : st0 = As.reverse ++ .ref (adK i) :: st) (h8 : (st.map fun v => v.category).sum ≤ 8)
    (k : SJ κ nL (pc + 3) lv (.int x :: st) r) : SJ κ nL pc lv st0 r := s_invV C hi hy hM hd hw hR hn hst h8 k
theorem s_invS1 (C : Cs κ own cc nL ret rm adK adV A) {y : MethodName} {b : ByteArray} {mL : Nat} {rt : Option FieldType} {rm' : Room} {x : Int32} {idx n : Nat} {As st0 : List Value} (hM : CtS y b mL rt rm' adK adV A As (some x)) (hd : decode cc pc = .ok (.invokestatic idx, 3)) (hw : IS own idx y b mL rt n) (hR : RmOk rm' rm mL) (hn : As.length = n) (hst : st0 = As.reverse ++ st) (h8 : (st.map fun v => v.category).sum ≤ 8)
    (k : SJ κ nL (pc + 3) lv (.int x :: st) r) : SJ κ nL pc lv st0 r := s_invS C hM hd hw hR hn hst h8 k
theorem s_invS0 (C : Cs κ own cc nL ret rm adK adV A) {y : MethodName} {b : ByteArray} {mL : Nat} {rt : Option FieldType} {rm' : Room} {idx n : Nat} {As st0 : List Value} (hM : CtS y b mL rt rm' adK adV A As none) (hd : decode cc pc = .ok (.invokestatic idx, 3)) (hw : IS own idx y b mL rt n) (hR : RmOk rm' rm mL) (hn : As.length = n) (hst : st0 = As.reverse ++ st) (h8 : (st.map fun v => v.category).sum ≤ 8)
    (k : SJ κ nL (pc + 3) lv st r) : SJ κ nL pc lv st0 r := s_invS C hM hd hw hR hn hst h8 k
theorem s_aload_v (C : Cs κ own cc nL ret rm adK adV A) {i : Fin 4} {a : Nat} (hd : decode cc pc = .ok (.aload_n i, 1)) (q : Nat) (hv : lv[q]? = some (i.val, .ref a)) (k : SJ κ nL (pc + 1) lv (.ref a :: st) r) : SJ κ nL pc lv st r := s_aload_n C hd q hv k
theorem s_min (C : Cs κ own cc nL ret rm adK adV A) {idx : Nat} {x y v : Int32} (hd : decode cc pc = .ok (.invokestatic idx, 3)) (hw : IMin own idx) (h8 : (st.map fun v => v.category).sum ≤ 8) (hR : 1 ≤ rm.frames ∧ 21 ≤ rm.locals) (hv : (if y < x then y else x) = v) (k : SJ κ nL (pc + 3) lv (.int v :: st) r) : SJ κ nL pc lv (.int y :: .int x :: st) r := by
  refine ⟨fun ls hl => ?_, trivial⟩
  obtain ⟨c1, c2, c3, c4, c5, c6, c7, c8, c9⟩ := id C
  refine va_mmin c1 c2 (by rw [c3]; exact hl.1.symm) c4 (c5 _ hw.1) (c5 _ hw.2.1) (c5 _ hw.2.2.1) (c5 _ hw.2.2.2) (by rw [c9]; exact hR.1) (by rw [c9]; have := hR.2; omega) (Nat.zero_le _) (Nat.zero_le _) hd ?_
  rw [hv]
  exact k.1 ls hl
theorem s_max (C : Cs κ own cc nL ret rm adK adV A) {idx : Nat} {x y v : Int32} (hd : decode cc pc = .ok (.invokestatic idx, 3)) (hw : IMax own idx) (h8 : (st.map fun v => v.category).sum ≤ 8) (hR : 1 ≤ rm.frames ∧ 21 ≤ rm.locals) (hv : (if x < y then y else x) = v) (k : SJ κ nL (pc + 3) lv (.int v :: st) r) : SJ κ nL pc lv (.int y :: .int x :: st) r := by
  refine ⟨fun ls hl => ?_, trivial⟩
  obtain ⟨c1, c2, c3, c4, c5, c6, c7, c8, c9⟩ := id C
  refine va_mmax c1 c2 (by rw [c3]; exact hl.1.symm) c4 (c5 _ hw.1) (c5 _ hw.2.1) (c5 _ hw.2.2.1) (c5 _ hw.2.2.2) (by rw [c9]; exact hR.1) (by rw [c9]; have := hR.2; omega) (Nat.zero_le _) (Nat.zero_le _) hd ?_
  rw [hv]
  exact k.1 ls hl
end SR1
theorem fwJ0_9 : Cond.fieldLink "java/lang/String" 9 "java/lang/String" "value" "[B" ∈ tb := (tb_mem (t_in5 (List.mem_of_getElem? (i := 169) (by decide +kernel))) (by decide +kernel))
theorem fwJ0_15 : Cond.fieldLink "java/lang/String" 15 "java/lang/String" "coder" "B" ∈ tb := (tb_mem (t_in5 (List.mem_of_getElem? (i := 170) (by decide +kernel))) (by decide +kernel))
theorem fwJ0_38 : Cond.fieldLink "java/lang/String" 38 "java/lang/String" "COMPACT_STRINGS" "Z" ∈ tb := (tb_mem (t_in2 (List.mem_of_getElem? (i := 29) (by decide +kernel))) (by decide +kernel))
theorem fwJ0_1053 : Cond.fieldLink "java/lang/String" 1053 "jdk/internal/util/Preconditions" "SIOOBE_FORMATTER" "Ljava/util/function/BiFunction;" ∈ tb := (tb_mem (t_in2 (List.mem_of_getElem? (i := 48) (by decide +kernel))) (by decide +kernel))
theorem ivJ0_492 : IV RJ0 492 yJ0_isLatin1_aae02 cJ0_isLatin1_aae02 1 (some .boolean) 0 := ⟨(tb_mem (t_in2 (List.mem_of_getElem? (i := 38) (by decide +kernel))) (by decide +kernel)), (tb_mem (t_in2 (List.mem_of_getElem? (i := 39) (by decide +kernel))) (by decide +kernel)), (tb_mem (t_in2 (List.mem_of_getElem? (i := 40) (by decide +kernel))) (by decide +kernel)), (tb_mem (t_in1 (List.mem_of_getElem? (i := 10) (by decide +kernel))) (by decide +kernel)), (tb_mem (t_in2 (List.mem_of_getElem? (i := 41) (by decide +kernel))) (by decide +kernel)), ⟨by decide +kernel, by decide +kernel, by decide +kernel⟩⟩
theorem ivJ0_335 : IV RJ0 335 yJ0_coder_7d493 cJ0_coder_7d493 1 (some .byte) 0 := ⟨(tb_mem (t_in2 (List.mem_of_getElem? (i := 25) (by decide +kernel))) (by decide +kernel)), (tb_mem (t_in2 (List.mem_of_getElem? (i := 26) (by decide +kernel))) (by decide +kernel)), (tb_mem (t_in2 (List.mem_of_getElem? (i := 27) (by decide +kernel))) (by decide +kernel)), (tb_mem (t_in1 (List.mem_of_getElem? (i := 10) (by decide +kernel))) (by decide +kernel)), (tb_mem (t_in2 (List.mem_of_getElem? (i := 28) (by decide +kernel))) (by decide +kernel)), ⟨by decide +kernel, by decide +kernel, by decide +kernel⟩⟩
theorem ivJ0_505 : IV RJ0 505 yJ0_length_8abf5 cJ0_length_8abf5 1 (some .int) 0 := ⟨(tb_mem (t_in2 (List.mem_of_getElem? (i := 109) (by decide +kernel))) (by decide +kernel)), (tb_mem (t_in2 (List.mem_of_getElem? (i := 22) (by decide +kernel))) (by decide +kernel)), (tb_mem (t_in2 (List.mem_of_getElem? (i := 23) (by decide +kernel))) (by decide +kernel)), (tb_mem (t_in1 (List.mem_of_getElem? (i := 10) (by decide +kernel))) (by decide +kernel)), (tb_mem (t_in2 (List.mem_of_getElem? (i := 24) (by decide +kernel))) (by decide +kernel)), ⟨by decide +kernel, by decide +kernel, by decide +kernel⟩⟩
theorem ivJ0_495 : IS RJ0 495 yJ1_charAt_3b067 cJ1_charAt_3b067 2 (some .char) 2 := ⟨(tb_mem (t_in2 (List.mem_of_getElem? (i := 42) (by decide +kernel))) (by decide +kernel)), (tb_mem (t_in2 (List.mem_of_getElem? (i := 43) (by decide +kernel))) (by decide +kernel)), (tb_mem (t_in1 (List.mem_of_getElem? (i := 12) (by decide +kernel))) (by decide +kernel)), (tb_mem (t_in2 (List.mem_of_getElem? (i := 44) (by decide +kernel))) (by decide +kernel)), ⟨by decide +kernel, by decide +kernel, by decide +kernel⟩⟩
theorem ivJ0_633 : IV RJ0 633 yJ0_indexOf_7cf53 cJ0_indexOf_7cf53 3 (some .int) 2 := ⟨(tb_mem (t_in2 (List.mem_of_getElem? (i := 105) (by decide +kernel))) (by decide +kernel)), (tb_mem (t_in2 (List.mem_of_getElem? (i := 106) (by decide +kernel))) (by decide +kernel)), (tb_mem (t_in2 (List.mem_of_getElem? (i := 107) (by decide +kernel))) (by decide +kernel)), (tb_mem (t_in1 (List.mem_of_getElem? (i := 10) (by decide +kernel))) (by decide +kernel)), (tb_mem (t_in2 (List.mem_of_getElem? (i := 108) (by decide +kernel))) (by decide +kernel)), ⟨by decide +kernel, by decide +kernel, by decide +kernel⟩⟩
theorem ivJ0_637 : IS RJ0 637 yJ1_indexOf_4cfef cJ1_indexOf_4cfef 4 (some .int) 4 := ⟨(tb_mem (t_in2 (List.mem_of_getElem? (i := 110) (by decide +kernel))) (by decide +kernel)), (tb_mem (t_in2 (List.mem_of_getElem? (i := 111) (by decide +kernel))) (by decide +kernel)), (tb_mem (t_in1 (List.mem_of_getElem? (i := 12) (by decide +kernel))) (by decide +kernel)), (tb_mem (t_in2 (List.mem_of_getElem? (i := 112) (by decide +kernel))) (by decide +kernel)), ⟨by decide +kernel, by decide +kernel, by decide +kernel⟩⟩
theorem ivJ0_1059 : IS RJ0 1059 yJ3_checkIndex_8e157 cJ3_checkIndex_8e157 3 (some .int) 3 := ⟨(tb_mem (t_in2 (List.mem_of_getElem? (i := 50) (by decide +kernel))) (by decide +kernel)), (tb_mem (t_in2 (List.mem_of_getElem? (i := 51) (by decide +kernel))) (by decide +kernel)), (tb_mem (t_in1 (List.mem_of_getElem? (i := 13) (by decide +kernel))) (by decide +kernel)), (tb_mem (t_in2 (List.mem_of_getElem? (i := 52) (by decide +kernel))) (by decide +kernel)), ⟨by decide +kernel, by decide +kernel, by decide +kernel⟩⟩
theorem ivJ1_9 : IS RJ1 9 yJ0_checkIndex_df160 cJ0_checkIndex_df160 2 none 2 := ⟨(tb_mem (t_in2 (List.mem_of_getElem? (i := 45) (by decide +kernel))) (by decide +kernel)), (tb_mem (t_in2 (List.mem_of_getElem? (i := 46) (by decide +kernel))) (by decide +kernel)), (tb_mem (t_in1 (List.mem_of_getElem? (i := 10) (by decide +kernel))) (by decide +kernel)), (tb_mem (t_in2 (List.mem_of_getElem? (i := 47) (by decide +kernel))) (by decide +kernel)), ⟨by decide +kernel, by decide +kernel, by decide +kernel⟩⟩
theorem ivJ1_88 : IS RJ1 88 yJ1_canEncode_9a6ad cJ1_canEncode_9a6ad 1 (some .boolean) 1 := ⟨(tb_mem (t_in2 (List.mem_of_getElem? (i := 113) (by decide +kernel))) (by decide +kernel)), (tb_mem (t_in2 (List.mem_of_getElem? (i := 114) (by decide +kernel))) (by decide +kernel)), (tb_mem (t_in1 (List.mem_of_getElem? (i := 12) (by decide +kernel))) (by decide +kernel)), (tb_mem (t_in2 (List.mem_of_getElem? (i := 115) (by decide +kernel))) (by decide +kernel)), ⟨by decide +kernel, by decide +kernel, by decide +kernel⟩⟩
theorem ivJ1_92 : IMax RJ1 92 := ⟨(tb_mem (t_in2 (List.mem_of_getElem? (i := 116) (by decide +kernel))) (by decide +kernel)), (tb_mem (t_in2 (List.mem_of_getElem? (i := 117) (by decide +kernel))) (by decide +kernel)), (tb_mem (t_in1 (List.mem_of_getElem? (i := 11) (by decide +kernel))) (by decide +kernel)), (tb_mem (t_in2 (List.mem_of_getElem? (i := 118) (by decide +kernel))) (by decide +kernel))⟩
theorem ivJ1_38 : IMin RJ1 38 := ⟨(tb_mem (t_in2 (List.mem_of_getElem? (i := 119) (by decide +kernel))) (by decide +kernel)), (tb_mem (t_in2 (List.mem_of_getElem? (i := 32) (by decide +kernel))) (by decide +kernel)), (tb_mem (t_in1 (List.mem_of_getElem? (i := 11) (by decide +kernel))) (by decide +kernel)), (tb_mem (t_in2 (List.mem_of_getElem? (i := 33) (by decide +kernel))) (by decide +kernel))⟩
theorem ivJ1_95 : IS RJ1 95 yJ1_indexOfChar_4cfef cJ1_indexOfChar_4cfef 6 (some .int) 4 := ⟨(tb_mem (t_in2 (List.mem_of_getElem? (i := 120) (by decide +kernel))) (by decide +kernel)), (tb_mem (t_in2 (List.mem_of_getElem? (i := 121) (by decide +kernel))) (by decide +kernel)), (tb_mem (t_in1 (List.mem_of_getElem? (i := 12) (by decide +kernel))) (by decide +kernel)), (tb_mem (t_in2 (List.mem_of_getElem? (i := 122) (by decide +kernel))) (by decide +kernel)), ⟨by decide +kernel, by decide +kernel, by decide +kernel⟩⟩
theorem dJ0_isLatin1_aae02_0 : decode cJ0_isLatin1_aae02 0 = .ok (.getstatic 38, 3) := by decide +kernel
theorem dJ0_isLatin1_aae02_3 : decode cJ0_isLatin1_aae02 3 = .ok (.ifCond .eq 14, 3) := by decide +kernel
theorem dJ0_isLatin1_aae02_6 : decode cJ0_isLatin1_aae02 6 = .ok (.aload_n 0, 1) := by decide +kernel
theorem dJ0_isLatin1_aae02_7 : decode cJ0_isLatin1_aae02 7 = .ok (.getfield 15, 3) := by decide +kernel
theorem dJ0_isLatin1_aae02_10 : decode cJ0_isLatin1_aae02 10 = .ok (.ifCond .ne 7, 3) := by decide +kernel
theorem dJ0_isLatin1_aae02_13 : decode cJ0_isLatin1_aae02 13 = .ok (.iconst 1, 1) := by decide +kernel
theorem dJ0_isLatin1_aae02_14 : decode cJ0_isLatin1_aae02 14 = .ok (.goto 4, 3) := by decide +kernel
theorem dJ0_isLatin1_aae02_17 : decode cJ0_isLatin1_aae02 17 = .ok (.iconst 0, 1) := by decide +kernel
theorem dJ0_isLatin1_aae02_18 : decode cJ0_isLatin1_aae02 18 = .ok (.ireturn, 1) := by decide +kernel
theorem dJ0_coder_7d493_0 : decode cJ0_coder_7d493 0 = .ok (.getstatic 38, 3) := by decide +kernel
theorem dJ0_coder_7d493_3 : decode cJ0_coder_7d493 3 = .ok (.ifCond .eq 10, 3) := by decide +kernel
theorem dJ0_coder_7d493_6 : decode cJ0_coder_7d493 6 = .ok (.aload_n 0, 1) := by decide +kernel
theorem dJ0_coder_7d493_7 : decode cJ0_coder_7d493 7 = .ok (.getfield 15, 3) := by decide +kernel
theorem dJ0_coder_7d493_10 : decode cJ0_coder_7d493 10 = .ok (.goto 4, 3) := by decide +kernel
theorem dJ0_coder_7d493_13 : decode cJ0_coder_7d493 13 = .ok (.iconst 1, 1) := by decide +kernel
theorem dJ0_coder_7d493_14 : decode cJ0_coder_7d493 14 = .ok (.ireturn, 1) := by decide +kernel
theorem dJ0_length_8abf5_0 : decode cJ0_length_8abf5 0 = .ok (.aload_n 0, 1) := by decide +kernel
theorem dJ0_length_8abf5_1 : decode cJ0_length_8abf5 1 = .ok (.getfield 9, 3) := by decide +kernel
theorem dJ0_length_8abf5_4 : decode cJ0_length_8abf5 4 = .ok (.arraylength, 1) := by decide +kernel
theorem dJ0_length_8abf5_5 : decode cJ0_length_8abf5 5 = .ok (.aload_n 0, 1) := by decide +kernel
theorem dJ0_length_8abf5_6 : decode cJ0_length_8abf5 6 = .ok (.invokevirtual 335, 3) := by decide +kernel
theorem dJ0_length_8abf5_9 : decode cJ0_length_8abf5 9 = .ok (.ishr, 1) := by decide +kernel
theorem dJ0_length_8abf5_10 : decode cJ0_length_8abf5 10 = .ok (.ireturn, 1) := by decide +kernel
theorem dJ0_charAt_5068e_0 : decode cJ0_charAt_5068e 0 = .ok (.aload_n 0, 1) := by decide +kernel
theorem dJ0_charAt_5068e_1 : decode cJ0_charAt_5068e 1 = .ok (.invokevirtual 492, 3) := by decide +kernel
theorem dJ0_charAt_5068e_4 : decode cJ0_charAt_5068e 4 = .ok (.ifCond .eq 12, 3) := by decide +kernel
theorem dJ0_charAt_5068e_7 : decode cJ0_charAt_5068e 7 = .ok (.aload_n 0, 1) := by decide +kernel
theorem dJ0_charAt_5068e_8 : decode cJ0_charAt_5068e 8 = .ok (.getfield 9, 3) := by decide +kernel
theorem dJ0_charAt_5068e_11 : decode cJ0_charAt_5068e 11 = .ok (.iload_n 1, 1) := by decide +kernel
theorem dJ0_charAt_5068e_12 : decode cJ0_charAt_5068e 12 = .ok (.invokestatic 495, 3) := by decide +kernel
theorem dJ0_charAt_5068e_15 : decode cJ0_charAt_5068e 15 = .ok (.ireturn, 1) := by decide +kernel
theorem dJ0_charAt_5068e_16 : decode cJ0_charAt_5068e 16 = .ok (.aload_n 0, 1) := by decide +kernel
theorem dJ0_charAt_5068e_17 : decode cJ0_charAt_5068e 17 = .ok (.getfield 9, 3) := by decide +kernel
theorem dJ0_charAt_5068e_20 : decode cJ0_charAt_5068e 20 = .ok (.iload_n 1, 1) := by decide +kernel
theorem dJ0_charAt_5068e_21 : decode cJ0_charAt_5068e 21 = .ok (.invokestatic 498, 3) := by decide +kernel
theorem dJ0_charAt_5068e_24 : decode cJ0_charAt_5068e 24 = .ok (.ireturn, 1) := by decide +kernel
theorem dJ0_checkIndex_df160_0 : decode cJ0_checkIndex_df160 0 = .ok (.iload_n 0, 1) := by decide +kernel
theorem dJ0_checkIndex_df160_1 : decode cJ0_checkIndex_df160 1 = .ok (.iload_n 1, 1) := by decide +kernel
theorem dJ0_checkIndex_df160_2 : decode cJ0_checkIndex_df160 2 = .ok (.getstatic 1053, 3) := by decide +kernel
theorem dJ0_checkIndex_df160_5 : decode cJ0_checkIndex_df160 5 = .ok (.invokestatic 1059, 3) := by decide +kernel
theorem dJ0_checkIndex_df160_8 : decode cJ0_checkIndex_df160 8 = .ok (.pop, 1) := by decide +kernel
theorem dJ0_checkIndex_df160_9 : decode cJ0_checkIndex_df160 9 = .ok (.return_, 1) := by decide +kernel
theorem dJ3_checkIndex_8e157_0 : decode cJ3_checkIndex_8e157 0 = .ok (.iload_n 0, 1) := by decide +kernel
theorem dJ3_checkIndex_8e157_1 : decode cJ3_checkIndex_8e157 1 = .ok (.ifCond .lt 8, 3) := by decide +kernel
theorem dJ3_checkIndex_8e157_4 : decode cJ3_checkIndex_8e157 4 = .ok (.iload_n 0, 1) := by decide +kernel
theorem dJ3_checkIndex_8e157_5 : decode cJ3_checkIndex_8e157 5 = .ok (.iload_n 1, 1) := by decide +kernel
theorem dJ3_checkIndex_8e157_6 : decode cJ3_checkIndex_8e157 6 = .ok (.if_icmp .lt 10, 3) := by decide +kernel
theorem dJ3_checkIndex_8e157_9 : decode cJ3_checkIndex_8e157 9 = .ok (.aload_n 2, 1) := by decide +kernel
theorem dJ3_checkIndex_8e157_10 : decode cJ3_checkIndex_8e157 10 = .ok (.iload_n 0, 1) := by decide +kernel
theorem dJ3_checkIndex_8e157_11 : decode cJ3_checkIndex_8e157 11 = .ok (.iload_n 1, 1) := by decide +kernel
theorem dJ3_checkIndex_8e157_12 : decode cJ3_checkIndex_8e157 12 = .ok (.invokestatic 95, 3) := by decide +kernel
theorem dJ3_checkIndex_8e157_15 : decode cJ3_checkIndex_8e157 15 = .ok (.athrow, 1) := by decide +kernel
theorem dJ3_checkIndex_8e157_16 : decode cJ3_checkIndex_8e157 16 = .ok (.iload_n 0, 1) := by decide +kernel
theorem dJ3_checkIndex_8e157_17 : decode cJ3_checkIndex_8e157 17 = .ok (.ireturn, 1) := by decide +kernel
theorem dJ1_charAt_3b067_0 : decode cJ1_charAt_3b067 0 = .ok (.iload_n 1, 1) := by decide +kernel
theorem dJ1_charAt_3b067_1 : decode cJ1_charAt_3b067 1 = .ok (.aload_n 0, 1) := by decide +kernel
theorem dJ1_charAt_3b067_2 : decode cJ1_charAt_3b067 2 = .ok (.arraylength, 1) := by decide +kernel
theorem dJ1_charAt_3b067_3 : decode cJ1_charAt_3b067 3 = .ok (.invokestatic 9, 3) := by decide +kernel
theorem dJ1_charAt_3b067_6 : decode cJ1_charAt_3b067 6 = .ok (.aload_n 0, 1) := by decide +kernel
theorem dJ1_charAt_3b067_7 : decode cJ1_charAt_3b067 7 = .ok (.iload_n 1, 1) := by decide +kernel
theorem dJ1_charAt_3b067_8 : decode cJ1_charAt_3b067 8 = .ok (.baload, 1) := by decide +kernel
theorem dJ1_charAt_3b067_9 : decode cJ1_charAt_3b067 9 = .ok (.sipush 255, 3) := by decide +kernel
theorem dJ1_charAt_3b067_12 : decode cJ1_charAt_3b067 12 = .ok (.iand, 1) := by decide +kernel
theorem dJ1_charAt_3b067_13 : decode cJ1_charAt_3b067 13 = .ok (.i2c, 1) := by decide +kernel
theorem dJ1_charAt_3b067_14 : decode cJ1_charAt_3b067 14 = .ok (.ireturn, 1) := by decide +kernel
theorem dJ0_indexOf_0f7a4_0 : decode cJ0_indexOf_0f7a4 0 = .ok (.aload_n 0, 1) := by decide +kernel
theorem dJ0_indexOf_0f7a4_1 : decode cJ0_indexOf_0f7a4 1 = .ok (.iload_n 1, 1) := by decide +kernel
theorem dJ0_indexOf_0f7a4_2 : decode cJ0_indexOf_0f7a4 2 = .ok (.iconst 0, 1) := by decide +kernel
theorem dJ0_indexOf_0f7a4_3 : decode cJ0_indexOf_0f7a4 3 = .ok (.invokevirtual 633, 3) := by decide +kernel
theorem dJ0_indexOf_0f7a4_6 : decode cJ0_indexOf_0f7a4 6 = .ok (.ireturn, 1) := by decide +kernel
theorem dJ0_indexOf_7cf53_0 : decode cJ0_indexOf_7cf53 0 = .ok (.aload_n 0, 1) := by decide +kernel
theorem dJ0_indexOf_7cf53_1 : decode cJ0_indexOf_7cf53 1 = .ok (.invokevirtual 492, 3) := by decide +kernel
theorem dJ0_indexOf_7cf53_4 : decode cJ0_indexOf_7cf53 4 = .ok (.ifCond .eq 19, 3) := by decide +kernel
theorem dJ0_indexOf_7cf53_7 : decode cJ0_indexOf_7cf53 7 = .ok (.aload_n 0, 1) := by decide +kernel
theorem dJ0_indexOf_7cf53_8 : decode cJ0_indexOf_7cf53 8 = .ok (.getfield 9, 3) := by decide +kernel
theorem dJ0_indexOf_7cf53_11 : decode cJ0_indexOf_7cf53 11 = .ok (.iload_n 1, 1) := by decide +kernel
theorem dJ0_indexOf_7cf53_12 : decode cJ0_indexOf_7cf53 12 = .ok (.iload_n 2, 1) := by decide +kernel
theorem dJ0_indexOf_7cf53_13 : decode cJ0_indexOf_7cf53 13 = .ok (.aload_n 0, 1) := by decide +kernel
theorem dJ0_indexOf_7cf53_14 : decode cJ0_indexOf_7cf53 14 = .ok (.invokevirtual 505, 3) := by decide +kernel
theorem dJ0_indexOf_7cf53_17 : decode cJ0_indexOf_7cf53 17 = .ok (.invokestatic 637, 3) := by decide +kernel
theorem dJ0_indexOf_7cf53_20 : decode cJ0_indexOf_7cf53 20 = .ok (.goto 16, 3) := by decide +kernel
theorem dJ0_indexOf_7cf53_23 : decode cJ0_indexOf_7cf53 23 = .ok (.aload_n 0, 1) := by decide +kernel
theorem dJ0_indexOf_7cf53_24 : decode cJ0_indexOf_7cf53 24 = .ok (.getfield 9, 3) := by decide +kernel
theorem dJ0_indexOf_7cf53_27 : decode cJ0_indexOf_7cf53 27 = .ok (.iload_n 1, 1) := by decide +kernel
theorem dJ0_indexOf_7cf53_28 : decode cJ0_indexOf_7cf53 28 = .ok (.iload_n 2, 1) := by decide +kernel
theorem dJ0_indexOf_7cf53_29 : decode cJ0_indexOf_7cf53 29 = .ok (.aload_n 0, 1) := by decide +kernel
theorem dJ0_indexOf_7cf53_30 : decode cJ0_indexOf_7cf53 30 = .ok (.invokevirtual 505, 3) := by decide +kernel
theorem dJ0_indexOf_7cf53_33 : decode cJ0_indexOf_7cf53 33 = .ok (.invokestatic 640, 3) := by decide +kernel
theorem dJ0_indexOf_7cf53_36 : decode cJ0_indexOf_7cf53 36 = .ok (.ireturn, 1) := by decide +kernel
theorem dJ1_indexOf_4cfef_0 : decode cJ1_indexOf_4cfef 0 = .ok (.iload_n 1, 1) := by decide +kernel
theorem dJ1_indexOf_4cfef_1 : decode cJ1_indexOf_4cfef 1 = .ok (.invokestatic 88, 3) := by decide +kernel
theorem dJ1_indexOf_4cfef_4 : decode cJ1_indexOf_4cfef 4 = .ok (.ifCond .ne 5, 3) := by decide +kernel
theorem dJ1_indexOf_4cfef_7 : decode cJ1_indexOf_4cfef 7 = .ok (.iconst (-1), 1) := by decide +kernel
theorem dJ1_indexOf_4cfef_8 : decode cJ1_indexOf_4cfef 8 = .ok (.ireturn, 1) := by decide +kernel
theorem dJ1_indexOf_4cfef_9 : decode cJ1_indexOf_4cfef 9 = .ok (.iload_n 2, 1) := by decide +kernel
theorem dJ1_indexOf_4cfef_10 : decode cJ1_indexOf_4cfef 10 = .ok (.iconst 0, 1) := by decide +kernel
theorem dJ1_indexOf_4cfef_11 : decode cJ1_indexOf_4cfef 11 = .ok (.invokestatic 92, 3) := by decide +kernel
theorem dJ1_indexOf_4cfef_14 : decode cJ1_indexOf_4cfef 14 = .ok (.istore_n 2, 1) := by decide +kernel
theorem dJ1_indexOf_4cfef_15 : decode cJ1_indexOf_4cfef 15 = .ok (.iload_n 3, 1) := by decide +kernel
theorem dJ1_indexOf_4cfef_16 : decode cJ1_indexOf_4cfef 16 = .ok (.aload_n 0, 1) := by decide +kernel
theorem dJ1_indexOf_4cfef_17 : decode cJ1_indexOf_4cfef 17 = .ok (.arraylength, 1) := by decide +kernel
theorem dJ1_indexOf_4cfef_18 : decode cJ1_indexOf_4cfef 18 = .ok (.invokestatic 38, 3) := by decide +kernel
theorem dJ1_indexOf_4cfef_21 : decode cJ1_indexOf_4cfef 21 = .ok (.istore_n 3, 1) := by decide +kernel
theorem dJ1_indexOf_4cfef_22 : decode cJ1_indexOf_4cfef 22 = .ok (.iload_n 2, 1) := by decide +kernel
theorem dJ1_indexOf_4cfef_23 : decode cJ1_indexOf_4cfef 23 = .ok (.iload_n 3, 1) := by decide +kernel
theorem dJ1_indexOf_4cfef_24 : decode cJ1_indexOf_4cfef 24 = .ok (.if_icmp .lt 5, 3) := by decide +kernel
theorem dJ1_indexOf_4cfef_27 : decode cJ1_indexOf_4cfef 27 = .ok (.iconst (-1), 1) := by decide +kernel
theorem dJ1_indexOf_4cfef_28 : decode cJ1_indexOf_4cfef 28 = .ok (.ireturn, 1) := by decide +kernel
theorem dJ1_indexOf_4cfef_29 : decode cJ1_indexOf_4cfef 29 = .ok (.aload_n 0, 1) := by decide +kernel
theorem dJ1_indexOf_4cfef_30 : decode cJ1_indexOf_4cfef 30 = .ok (.iload_n 1, 1) := by decide +kernel
theorem dJ1_indexOf_4cfef_31 : decode cJ1_indexOf_4cfef 31 = .ok (.iload_n 2, 1) := by decide +kernel
theorem dJ1_indexOf_4cfef_32 : decode cJ1_indexOf_4cfef 32 = .ok (.iload_n 3, 1) := by decide +kernel
theorem dJ1_indexOf_4cfef_33 : decode cJ1_indexOf_4cfef 33 = .ok (.invokestatic 95, 3) := by decide +kernel
theorem dJ1_indexOf_4cfef_36 : decode cJ1_indexOf_4cfef 36 = .ok (.ireturn, 1) := by decide +kernel
theorem dJ1_canEncode_9a6ad_0 : decode cJ1_canEncode_9a6ad 0 = .ok (.iload_n 0, 1) := by decide +kernel
theorem dJ1_canEncode_9a6ad_1 : decode cJ1_canEncode_9a6ad 1 = .ok (.ifCond .lt 14, 3) := by decide +kernel
theorem dJ1_canEncode_9a6ad_4 : decode cJ1_canEncode_9a6ad 4 = .ok (.iload_n 0, 1) := by decide +kernel
theorem dJ1_canEncode_9a6ad_5 : decode cJ1_canEncode_9a6ad 5 = .ok (.sipush 255, 3) := by decide +kernel
theorem dJ1_canEncode_9a6ad_8 : decode cJ1_canEncode_9a6ad 8 = .ok (.if_icmp .gt 7, 3) := by decide +kernel
theorem dJ1_canEncode_9a6ad_11 : decode cJ1_canEncode_9a6ad 11 = .ok (.iconst 1, 1) := by decide +kernel
theorem dJ1_canEncode_9a6ad_12 : decode cJ1_canEncode_9a6ad 12 = .ok (.goto 4, 3) := by decide +kernel
theorem dJ1_canEncode_9a6ad_15 : decode cJ1_canEncode_9a6ad 15 = .ok (.iconst 0, 1) := by decide +kernel
theorem dJ1_canEncode_9a6ad_16 : decode cJ1_canEncode_9a6ad 16 = .ok (.ireturn, 1) := by decide +kernel
theorem dJ1_indexOfChar_4cfef_0 : decode cJ1_indexOfChar_4cfef 0 = .ok (.iload_n 1, 1) := by decide +kernel
theorem dJ1_indexOfChar_4cfef_1 : decode cJ1_indexOfChar_4cfef 1 = .ok (.i2b, 1) := by decide +kernel
theorem dJ1_indexOfChar_4cfef_2 : decode cJ1_indexOfChar_4cfef 2 = .ok (.istore 4, 2) := by decide +kernel
theorem dJ1_indexOfChar_4cfef_4 : decode cJ1_indexOfChar_4cfef 4 = .ok (.iload_n 2, 1) := by decide +kernel
theorem dJ1_indexOfChar_4cfef_5 : decode cJ1_indexOfChar_4cfef 5 = .ok (.istore 5, 2) := by decide +kernel
theorem dJ1_indexOfChar_4cfef_7 : decode cJ1_indexOfChar_4cfef 7 = .ok (.iload 5, 2) := by decide +kernel
theorem dJ1_indexOfChar_4cfef_9 : decode cJ1_indexOfChar_4cfef 9 = .ok (.iload_n 3, 1) := by decide +kernel
theorem dJ1_indexOfChar_4cfef_10 : decode cJ1_indexOfChar_4cfef 10 = .ok (.if_icmp .ge 21, 3) := by decide +kernel
theorem dJ1_indexOfChar_4cfef_13 : decode cJ1_indexOfChar_4cfef 13 = .ok (.aload_n 0, 1) := by decide +kernel
theorem dJ1_indexOfChar_4cfef_14 : decode cJ1_indexOfChar_4cfef 14 = .ok (.iload 5, 2) := by decide +kernel
theorem dJ1_indexOfChar_4cfef_16 : decode cJ1_indexOfChar_4cfef 16 = .ok (.baload, 1) := by decide +kernel
theorem dJ1_indexOfChar_4cfef_17 : decode cJ1_indexOfChar_4cfef 17 = .ok (.iload 4, 2) := by decide +kernel
theorem dJ1_indexOfChar_4cfef_19 : decode cJ1_indexOfChar_4cfef 19 = .ok (.if_icmp .ne 6, 3) := by decide +kernel
theorem dJ1_indexOfChar_4cfef_22 : decode cJ1_indexOfChar_4cfef 22 = .ok (.iload 5, 2) := by decide +kernel
theorem dJ1_indexOfChar_4cfef_24 : decode cJ1_indexOfChar_4cfef 24 = .ok (.ireturn, 1) := by decide +kernel
theorem dJ1_indexOfChar_4cfef_25 : decode cJ1_indexOfChar_4cfef 25 = .ok (.iinc 5 1, 3) := by decide +kernel
theorem dJ1_indexOfChar_4cfef_28 : decode cJ1_indexOfChar_4cfef 28 = .ok (.goto (-21), 3) := by decide +kernel
theorem dJ1_indexOfChar_4cfef_31 : decode cJ1_indexOfChar_4cfef 31 = .ok (.iconst (-1), 1) := by decide +kernel
theorem dJ1_indexOfChar_4cfef_32 : decode cJ1_indexOfChar_4cfef 32 = .ok (.ireturn, 1) := by decide +kernel
section SM
variable {adK adV : Nat → Nat} {A : Nat → Prop}
theorem ctJ0_isLatin1 {i : Nat} (hi : i < 2) : CtS yJ0_isLatin1_aae02 cJ0_isLatin1_aae02 1 (some .boolean) (rmS 0 0) adK adV A [.ref (adK i)] (some 1) := by
  refine cs_of (by decide +kernel) (Nat.le_of_ble_eq_true rfl) (fun κ C => ?_)
  refine s_cs C dJ0_isLatin1_aae02_0 fwJ0_38 ?_
  refine s_if_eq C dJ0_isLatin1_aae02_3 (tgt := 17) (by decide) (fun h => absurd h (by decide)) (fun _ => ?_)
  refine s_aload_n C dJ0_isLatin1_aae02_6 0 rfl ?_
  refine s_cod C hi dJ0_isLatin1_aae02_7 fwJ0_15 ?_
  refine s_if_ne C dJ0_isLatin1_aae02_10 (tgt := 17) (by decide) (fun h => absurd rfl h) (fun _ => ?_)
  refine s_iconst C dJ0_isLatin1_aae02_13 rfl ?_
  refine s_goto C dJ0_isLatin1_aae02_14 (tgt := 18) (by decide) ?_
  exact s_zret C (by decide +kernel) dJ0_isLatin1_aae02_18
theorem ctJ0_coder {i : Nat} (hi : i < 2) : CtS yJ0_coder_7d493 cJ0_coder_7d493 1 (some .byte) (rmS 0 0) adK adV A [.ref (adK i)] (some 0) := by
  refine cs_of (by decide +kernel) (Nat.le_of_ble_eq_true rfl) (fun κ C => ?_)
  refine s_cs C dJ0_coder_7d493_0 fwJ0_38 ?_
  refine s_if_eq C dJ0_coder_7d493_3 (tgt := 13) (by decide) (fun h => absurd h (by decide)) (fun _ => ?_)
  refine s_aload_n C dJ0_coder_7d493_6 0 rfl ?_
  refine s_cod C hi dJ0_coder_7d493_7 fwJ0_15 ?_
  refine s_goto C dJ0_coder_7d493_10 (tgt := 14) (by decide) ?_
  exact s_zret C (by decide +kernel) dJ0_coder_7d493_14
theorem ctJ0_length {i : Nat} (hi : i < 2) : CtS yJ0_length_8abf5 cJ0_length_8abf5 1 (some .int) (rmS 1 20) adK adV A [.ref (adK i)] (some (Int32.ofNat (sLen.getD i 0))) := by
  refine cs_of (by decide +kernel) (Nat.le_of_ble_eq_true rfl) (fun κ C => ?_)
  refine s_aload_n C dJ0_length_8abf5_0 0 rfl ?_
  refine s_val C hi dJ0_length_8abf5_1 fwJ0_9 ?_
  refine s_alen C hi rfl dJ0_length_8abf5_4 ?_
  refine s_aload_n C dJ0_length_8abf5_5 0 rfl ?_
  refine s_invV1 C hi rfl (ctJ0_coder hi) dJ0_length_8abf5_6 ivJ0_335 ⟨by decide, by decide, rfl, rfl⟩ (As := []) rfl (st := [.int (Int32.ofNat (sLen.getD i 0))]) rfl (Nat.le_of_ble_eq_true rfl) ?_
  refine s_ishr C dJ0_length_8abf5_9 ?_
  have e : Int32.ofNat (sLen.getD i 0) >>> ((0 : Int32) &&& 31) = Int32.ofNat (sLen.getD i 0) := by
    have h2 : i = 0 ∨ i = 1 := by omega
    rcases h2 with rfl | rfl <;> decide +kernel
  rw [e]
  exact s_iret C dJ0_length_8abf5_10
theorem ctJ3_check {v : Value} {j n : Int32} (hc : v.category = 1) (h0 : ¬ j < 0) (h1 : j < n) : CtS yJ3_checkIndex_8e157 cJ3_checkIndex_8e157 3 (some .int) (rmS 0 0) adK adV A [.int j, .int n, v] (some j) := by
  refine cs_of (by decide +kernel) (by simp only [lg_sl, List.flatMap_cons, List.flatMap_nil, hc]; exact Nat.le_of_ble_eq_true rfl) (fun κ C => ?_)
  refine s_iload_n C dJ3_checkIndex_8e157_0 0 rfl ?_
  refine s_if_lt C dJ3_checkIndex_8e157_1 (tgt := 9) (by decide) (fun h => absurd h h0) (fun _ => ?_)
  refine s_iload_n C dJ3_checkIndex_8e157_4 0 rfl ?_
  refine s_iload_n C dJ3_checkIndex_8e157_5 1 rfl ?_
  refine s_icmp_lt C dJ3_checkIndex_8e157_6 (tgt := 16) (by decide) (fun _ => ?_) (fun h => absurd h1 h)
  refine s_iload_n C dJ3_checkIndex_8e157_16 0 rfl ?_
  exact s_iret C dJ3_checkIndex_8e157_17
theorem ctJ0_check {j n : Int32} (h0 : ¬ j < 0) (h1 : j < n) : CtS yJ0_checkIndex_df160 cJ0_checkIndex_df160 2 none (rmS 1 22) adK adV A [.int j, .int n] none := by
  refine cs_of (by decide +kernel) (Nat.le_of_ble_eq_true rfl) (fun κ C => ?_)
  refine s_iload_n C dJ0_checkIndex_df160_0 0 rfl ?_
  refine s_iload_n C dJ0_checkIndex_df160_1 1 rfl ?_
  refine s_fmt C dJ0_checkIndex_df160_2 fwJ0_1053 (fun v hv => ?_)
  refine s_invS1 C (ctJ3_check hv h0 h1) dJ0_checkIndex_df160_5 ivJ0_1059 ⟨by decide, by decide, rfl, rfl⟩ rfl (st := []) rfl (Nat.le_of_ble_eq_true rfl) ?_
  refine s_pop C dJ0_checkIndex_df160_8 ?_
  exact s_vret C dJ0_checkIndex_df160_9
/-- a letter of a text -/
def sCh (i : Nat) (j : Int32) : Int32 := (sByt.getD i []).getD j.toNatClampNeg 0
theorem ctJ1_charAt {i : Nat} (hi : i < 2) {j w : Int32} (h0 : ¬ j < 0) (h1 : j < Int32.ofNat (sLen.getD i 0)) (hj : vp_in j (sLen.getD i 0)) (hw : ((sCh i j &&& 255).toUInt32 % 65536).toInt32 = w) (hn : narrow .char (.int w) = .int w) : CtS yJ1_charAt_3b067 cJ1_charAt_3b067 2 (some .char) (rmS 2 43) adK adV A [.ref (adV i), .int j] (some w) := by
  refine cs_of (by decide +kernel) (Nat.le_of_ble_eq_true rfl) (fun κ C => ?_)
  refine s_iload_n C dJ1_charAt_3b067_0 1 rfl ?_
  refine s_aload_n C dJ1_charAt_3b067_1 0 rfl ?_
  refine s_alen C hi rfl dJ1_charAt_3b067_2 ?_
  refine s_invS0 C (ctJ0_check h0 h1) dJ1_charAt_3b067_3 ivJ1_9 ⟨by decide, by decide, rfl, rfl⟩ rfl (st := []) rfl (Nat.le_of_ble_eq_true rfl) ?_
  refine s_aload_n C dJ1_charAt_3b067_6 0 rfl ?_
  refine s_iload_n C dJ1_charAt_3b067_7 1 rfl ?_
  refine s_bald C hi hj dJ1_charAt_3b067_8 ?_
  refine s_sipush C dJ1_charAt_3b067_9 (v := 255) (by decide) ?_
  refine s_iand C dJ1_charAt_3b067_12 ?_
  refine s_i2c C dJ1_charAt_3b067_13 hw ?_
  exact s_zret C hn dJ1_charAt_3b067_14
theorem ctJ0_charAt {i : Nat} (hi : i < 2) {j w : Int32} (h0 : ¬ j < 0) (h1 : j < Int32.ofNat (sLen.getD i 0)) (hj : vp_in j (sLen.getD i 0)) (hw : ((sCh i j &&& 255).toUInt32 % 65536).toInt32 = w) (hn : narrow .char (.int w) = .int w) : CtS yJ0_charAt_5068e cJ0_charAt_5068e 2 (some .char) (rmS 3 64) adK adV A [.ref (adK i), .int j] (some w) := by
  refine cs_of (by decide +kernel) (Nat.le_of_ble_eq_true rfl) (fun κ C => ?_)
  refine s_aload_n C dJ0_charAt_5068e_0 0 rfl ?_
  refine s_invV1 C hi rfl (ctJ0_isLatin1 hi) dJ0_charAt_5068e_1 ivJ0_492 ⟨by decide, by decide, rfl, rfl⟩ (As := []) rfl (st := []) rfl (Nat.le_of_ble_eq_true rfl) ?_
  refine s_if_eq C dJ0_charAt_5068e_4 (tgt := 16) (by decide) (fun h => absurd h (by decide)) (fun _ => ?_)
  refine s_aload_n C dJ0_charAt_5068e_7 0 rfl ?_
  refine s_val C hi dJ0_charAt_5068e_8 fwJ0_9 ?_
  refine s_iload_n C dJ0_charAt_5068e_11 1 rfl ?_
  refine s_invS1 C (ctJ1_charAt hi h0 h1 hj hw hn) dJ0_charAt_5068e_12 ivJ0_495 ⟨by decide, by decide, rfl, rfl⟩ rfl (st := []) rfl (Nat.le_of_ble_eq_true rfl) ?_
  exact s_zret C hn dJ0_charAt_5068e_15
def ixS (c : Int32) : Int32 := if c = 115 then 0 else if c = 103 then 1 else if c = 110 then 2 else -1
theorem ctJ1_canEncode {c : Int32} : CtS yJ1_canEncode_9a6ad cJ1_canEncode_9a6ad 1 (some .boolean) (rmS 0 0) adK adV A [.int c] (some (if c < 0 ∨ 255 < c then 0 else 1)) := by
  refine cs_of (by decide +kernel) (Nat.le_of_ble_eq_true rfl) (fun κ C => ?_)
  have out : (c < 0 ∨ 255 < c) → SJ κ 1 15 (lv_args 0 [.int c]) [] (some (if c < 0 ∨ 255 < c then 0 else 1)) := by
    intro h
    rw [if_pos h]
    refine s_iconst C dJ1_canEncode_9a6ad_15 rfl ?_
    exact s_zret C (by decide +kernel) dJ1_canEncode_9a6ad_16
  refine s_iload_n C dJ1_canEncode_9a6ad_0 0 rfl ?_
  refine s_if_lt C dJ1_canEncode_9a6ad_1 (tgt := 15) (by decide) (fun h => out (Or.inl h)) (fun h0 => ?_)
  refine s_iload_n C dJ1_canEncode_9a6ad_4 0 rfl ?_
  refine s_sipush C dJ1_canEncode_9a6ad_5 (v := 255) (by decide) ?_
  refine s_icmp_gt C dJ1_canEncode_9a6ad_8 (tgt := 15) (by decide) (fun h => out (Or.inr h)) (fun h1 => ?_)
  rw [if_neg (fun h => h.elim h0 h1)]
  refine s_iconst C dJ1_canEncode_9a6ad_11 rfl ?_
  refine s_goto C dJ1_canEncode_9a6ad_12 (tgt := 16) (by decide) ?_
  exact s_zret C (by decide +kernel) dJ1_canEncode_9a6ad_16
abbrev ixL (adV : Nat → Nat) (c cb k : Int32) : List (Nat × Value) := [(5, .int k), (4, .int cb), (0, .ref (adV 1)), (1, .int c), (2, .int 0), (3, .int 3)]
theorem ixc_step {κ : Ks} {rm : Room} (C : Cs κ RJ1 cJ1_indexOfChar_4cfef 6 (some .int) rm adK adV A) {c cb k k' b r : Int32} (hk : ¬ (3 : Int32) ≤ k) (hin : vp_in k (sLen.getD 1 0)) (hb : (sByt.getD 1 []).getD k.toNatClampNeg 0 = b) (hk' : k + Int32.ofInt 1 = k') (h1 : b = cb → k = r) (h2 : ¬ b = cb → SJ κ 6 7 (ixL adV c cb k') [] (some r)) : SJ κ 6 7 (ixL adV c cb k) [] (some r) := by
  refine s_iload C dJ1_indexOfChar_4cfef_7 0 rfl ?_
  refine s_iload_n C dJ1_indexOfChar_4cfef_9 5 rfl ?_
  refine s_icmp_ge C dJ1_indexOfChar_4cfef_10 (tgt := 31) (by decide) (fun h => absurd h hk) (fun _ => ?_)
  refine s_aload_n C dJ1_indexOfChar_4cfef_13 2 rfl ?_
  refine s_iload C dJ1_indexOfChar_4cfef_14 0 rfl ?_
  refine s_bald C (by decide) hin dJ1_indexOfChar_4cfef_16 ?_
  rw [hb]
  refine s_iload C dJ1_indexOfChar_4cfef_17 1 rfl ?_
  refine s_icmp_ne C dJ1_indexOfChar_4cfef_19 (tgt := 25) (by decide) (fun h => ?_) (fun h => ?_)
  · refine s_iinc C dJ1_indexOfChar_4cfef_25 0 rfl hk' (by decide) (lv' := ixL adV c cb k') rfl ?_
    refine s_goto C dJ1_indexOfChar_4cfef_28 (tgt := 7) (by decide) ?_
    exact h2 h
  · have e := h1 (by simpa using h)
    subst e
    refine s_iload C dJ1_indexOfChar_4cfef_22 0 rfl ?_
    exact s_iret C dJ1_indexOfChar_4cfef_24
theorem ctJ1_ixChar {c cb : Int32} (hcb : c.toInt8.toInt32 = cb) (e1 : (115 : Int32) = cb ↔ c = 115) (e2 : (103 : Int32) = cb ↔ c = 103) (e3 : (110 : Int32) = cb ↔ c = 110) : CtS yJ1_indexOfChar_4cfef cJ1_indexOfChar_4cfef 6 (some .int) (rmS 0 0) adK adV A [.ref (adV 1), .int c, .int 0, .int 3] (some (ixS c)) := by
  refine cs_of (by decide +kernel) (Nat.le_of_ble_eq_true rfl) (fun κ C => ?_)
  refine s_iload_n C dJ1_indexOfChar_4cfef_0 1 rfl ?_
  refine s_i2b C dJ1_indexOfChar_4cfef_1 hcb ?_
  refine s_istore C dJ1_indexOfChar_4cfef_2 (by decide) (lv' := [(4, .int cb), (0, .ref (adV 1)), (1, .int c), (2, .int 0), (3, .int 3)]) rfl ?_
  refine s_iload_n C dJ1_indexOfChar_4cfef_4 3 rfl ?_
  refine s_istore C dJ1_indexOfChar_4cfef_5 (by decide) (lv' := ixL adV c cb 0) rfl ?_
  refine ixc_step C (b := 115) (k' := 1) (by decide) (vp_in_iff.mpr ⟨by decide +kernel, by decide +kernel⟩) (by decide +kernel) (by decide +kernel) (fun h => ?_) (fun h => ?_)
  · rw [ixS, if_pos (e1.mp h)]
  have h1 : ¬ c = 115 := fun z => h (e1.mpr z)
  refine ixc_step C (b := 103) (k' := 2) (by decide) (vp_in_iff.mpr ⟨by decide +kernel, by decide +kernel⟩) (by decide +kernel) (by decide +kernel) (fun h => ?_) (fun h => ?_)
  · rw [ixS, if_neg h1, if_pos (e2.mp h)]
  have h2 : ¬ c = 103 := fun z => h (e2.mpr z)
  refine ixc_step C (b := 110) (k' := 3) (by decide) (vp_in_iff.mpr ⟨by decide +kernel, by decide +kernel⟩) (by decide +kernel) (by decide +kernel) (fun h => ?_) (fun h => ?_)
  · rw [ixS, if_neg h1, if_neg h2, if_pos (e3.mp h)]
  have h3 : ¬ c = 110 := fun z => h (e3.mpr z)
  refine s_iload C dJ1_indexOfChar_4cfef_7 0 rfl ?_
  refine s_iload_n C dJ1_indexOfChar_4cfef_9 5 rfl ?_
  refine s_icmp_ge C dJ1_indexOfChar_4cfef_10 (tgt := 31) (by decide) (fun _ => ?_) (fun h => absurd (by decide) h)
  have e : ixS c = -1 := by rw [ixS, if_neg h1, if_neg h2, if_neg h3]
  rw [e]
  refine s_iconst C dJ1_indexOfChar_4cfef_31 (v := -1) (by decide) ?_
  exact s_iret C dJ1_indexOfChar_4cfef_32
theorem ixS_out {c : Int32} (h : c < 0 ∨ 255 < c) : ixS c = -1 := by
  have h1 : ¬ c = 115 := by rintro rfl; revert h; decide
  have h2 : ¬ c = 103 := by rintro rfl; revert h; decide
  have h3 : ¬ c = 110 := by rintro rfl; revert h; decide
  rw [ixS, if_neg h1, if_neg h2, if_neg h3]
theorem ctJ1_indexOf {c cb : Int32} (hcb : c.toInt8.toInt32 = cb) (he : ¬ (c < 0 ∨ 255 < c) → ((115 : Int32) = cb ↔ c = 115) ∧ ((103 : Int32) = cb ↔ c = 103) ∧ ((110 : Int32) = cb ↔ c = 110)) : CtS yJ1_indexOf_4cfef cJ1_indexOf_4cfef 4 (some .int) (rmS 1 25) adK adV A [.ref (adV 1), .int c, .int 0, .int 3] (some (ixS c)) := by
  refine cs_of (by decide +kernel) (Nat.le_of_ble_eq_true rfl) (fun κ C => ?_)
  refine s_iload_n C dJ1_indexOf_4cfef_0 1 rfl ?_
  refine s_invS1 C ctJ1_canEncode dJ1_indexOf_4cfef_1 ivJ1_88 ⟨by decide, by decide, rfl, rfl⟩ rfl (st := []) rfl (Nat.le_of_ble_eq_true rfl) ?_
  refine s_if_ne C dJ1_indexOf_4cfef_4 (tgt := 9) (by decide) (fun h => ?_) (fun h => ?_)
  · have hc : ¬ (c < 0 ∨ 255 < c) := fun z => h (if_pos z)
    refine s_iload_n C dJ1_indexOf_4cfef_9 2 rfl ?_
    refine s_iconst C dJ1_indexOf_4cfef_10 (v := 0) rfl ?_
    refine s_max C dJ1_indexOf_4cfef_11 ivJ1_92 (Nat.le_of_ble_eq_true rfl) ⟨by decide, by decide⟩ (v := 0) (by decide) ?_
    refine s_istore_n C dJ1_indexOf_4cfef_14 (by decide) (lv' := [(2, .int 0), (0, .ref (adV 1)), (1, .int c), (3, .int 3)]) rfl ?_
    refine s_iload_n C dJ1_indexOf_4cfef_15 3 rfl ?_
    refine s_aload_n C dJ1_indexOf_4cfef_16 1 rfl ?_
    refine s_alen C (i := 1) (by decide) (v := 3) (by decide) dJ1_indexOf_4cfef_17 ?_
    refine s_min C dJ1_indexOf_4cfef_18 ivJ1_38 (Nat.le_of_ble_eq_true rfl) ⟨by decide, by decide⟩ (v := 3) (by decide) ?_
    refine s_istore_n C dJ1_indexOf_4cfef_21 (by decide) (lv' := [(3, .int 3), (2, .int 0), (0, .ref (adV 1)), (1, .int c)]) rfl ?_
    refine s_iload_n C dJ1_indexOf_4cfef_22 1 rfl ?_
    refine s_iload_n C dJ1_indexOf_4cfef_23 0 rfl ?_
    refine s_icmp_lt C dJ1_indexOf_4cfef_24 (tgt := 29) (by decide) (fun _ => ?_) (fun h => absurd (by decide) h)
    refine s_aload_n C dJ1_indexOf_4cfef_29 2 rfl ?_
    refine s_iload_n C dJ1_indexOf_4cfef_30 3 rfl ?_
    refine s_iload_n C dJ1_indexOf_4cfef_31 1 rfl ?_
    refine s_iload_n C dJ1_indexOf_4cfef_32 0 rfl ?_
    obtain ⟨q1, q2, q3⟩ := he hc
    refine s_invS1 C (ctJ1_ixChar hcb q1 q2 q3) dJ1_indexOf_4cfef_33 ivJ1_95 ⟨by decide, by decide, rfl, rfl⟩ rfl (st := []) rfl (Nat.le_of_ble_eq_true rfl) ?_
    exact s_iret C dJ1_indexOf_4cfef_36
  · have hc : c < 0 ∨ 255 < c := by
      rcases Classical.em (c < 0 ∨ 255 < c) with z | z
      · exact z
      · rw [if_neg z] at h
        exact absurd (by decide) h
    rw [ixS_out hc]
    refine s_iconst C dJ1_indexOf_4cfef_7 (v := -1) (by decide) ?_
    exact s_iret C dJ1_indexOf_4cfef_8
theorem ctJ0_indexOf2 {c cb : Int32} (hcb : c.toInt8.toInt32 = cb) (he : ¬ (c < 0 ∨ 255 < c) → ((115 : Int32) = cb ↔ c = 115) ∧ ((103 : Int32) = cb ↔ c = 103) ∧ ((110 : Int32) = cb ↔ c = 110)) : CtS yJ0_indexOf_7cf53 cJ0_indexOf_7cf53 3 (some .int) (rmS 2 48) adK adV A [.ref (adK 1), .int c, .int 0] (some (ixS c)) := by
  refine cs_of (by decide +kernel) (Nat.le_of_ble_eq_true rfl) (fun κ C => ?_)
  refine s_aload_n C dJ0_indexOf_7cf53_0 0 rfl ?_
  refine s_invV1 C (by decide) rfl (ctJ0_isLatin1 (by decide)) dJ0_indexOf_7cf53_1 ivJ0_492 ⟨by decide, by decide, rfl, rfl⟩ (As := []) rfl (st := []) rfl (Nat.le_of_ble_eq_true rfl) ?_
  refine s_if_eq C dJ0_indexOf_7cf53_4 (tgt := 23) (by decide) (fun h => absurd h (by decide)) (fun _ => ?_)
  refine s_aload_n C dJ0_indexOf_7cf53_7 0 rfl ?_
  refine s_val C (i := 1) (by decide) dJ0_indexOf_7cf53_8 fwJ0_9 ?_
  refine s_iload_n C dJ0_indexOf_7cf53_11 1 rfl ?_
  refine s_iload_n C dJ0_indexOf_7cf53_12 2 rfl ?_
  refine s_aload_n C dJ0_indexOf_7cf53_13 0 rfl ?_
  refine s_invV1 C (by decide) rfl (ctJ0_length (by decide)) dJ0_indexOf_7cf53_14 ivJ0_505 ⟨by decide, by decide, rfl, rfl⟩ (As := []) rfl (st := [.int 0, .int c, .ref (adV 1)]) rfl (Nat.le_of_ble_eq_true rfl) ?_
  refine s_invS1 C (ctJ1_indexOf hcb he) dJ0_indexOf_7cf53_17 ivJ0_637 ⟨by decide, by decide, rfl, rfl⟩ rfl (st := []) rfl (Nat.le_of_ble_eq_true rfl) ?_
  refine s_goto C dJ0_indexOf_7cf53_20 (tgt := 36) (by decide) ?_
  exact s_iret C dJ0_indexOf_7cf53_36
theorem ctJ0_indexOf {c cb : Int32} (hcb : c.toInt8.toInt32 = cb) (he : ¬ (c < 0 ∨ 255 < c) → ((115 : Int32) = cb ↔ c = 115) ∧ ((103 : Int32) = cb ↔ c = 103) ∧ ((110 : Int32) = cb ↔ c = 110)) : CtS yJ0_indexOf_0f7a4 cJ0_indexOf_0f7a4 2 (some .int) (rmS 3 70) adK adV A [.ref (adK 1), .int c] (some (ixS c)) := by
  refine cs_of (by decide +kernel) (Nat.le_of_ble_eq_true rfl) (fun κ C => ?_)
  refine s_aload_n C dJ0_indexOf_0f7a4_0 0 rfl ?_
  refine s_iload_n C dJ0_indexOf_0f7a4_1 1 rfl ?_
  refine s_iconst C dJ0_indexOf_0f7a4_2 (v := 0) rfl ?_
  refine s_invV1 C (by decide) rfl (ctJ0_indexOf2 hcb he) dJ0_indexOf_0f7a4_3 ivJ0_633 ⟨by decide, by decide, rfl, rfl⟩ (As := [.int c, .int 0]) rfl (st := []) rfl (Nat.le_of_ble_eq_true rfl) ?_
  exact s_iret C dJ0_indexOf_0f7a4_6
theorem ix_byte : ∀ n : Fin 256, (((115 : Int32) = (Int32.ofNat n.val).toInt8.toInt32 ↔ Int32.ofNat n.val = 115) ∧ ((103 : Int32) = (Int32.ofNat n.val).toInt8.toInt32 ↔ Int32.ofNat n.val = 103) ∧ ((110 : Int32) = (Int32.ofNat n.val).toInt8.toInt32 ↔ Int32.ofNat n.val = 110)) := by decide +kernel
def ixP (x : Int) : Int := if x = 115 then 0 else if x = 103 then 1 else if x = 110 then 2 else -1
theorem ixS_P {x : Int} (hx : inR x) : ixS (Int32.ofInt x) = Int32.ofInt (ixP x) := by
  have h1 : Int32.ofInt x = 115 ↔ x = 115 := oi_eq (y := 115) hx (by decide)
  have h2 : Int32.ofInt x = 103 ↔ x = 103 := oi_eq (y := 103) hx (by decide)
  have h3 : Int32.ofInt x = 110 ↔ x = 110 := oi_eq (y := 110) hx (by decide)
  unfold ixS ixP
  by_cases a : x = 115
  · rw [if_pos a, if_pos (h1.mpr a)]; rfl
  by_cases b : x = 103
  · rw [if_neg a, if_neg (fun z => a (h1.mp z)), if_pos b, if_pos (h2.mpr b)]; rfl
  by_cases c : x = 110
  · rw [if_neg a, if_neg (fun z => a (h1.mp z)), if_neg b, if_neg (fun z => b (h2.mp z)), if_pos c, if_pos (h3.mpr c)]; rfl
  rw [if_neg a, if_neg (fun z => a (h1.mp z)), if_neg b, if_neg (fun z => b (h2.mp z)), if_neg c, if_neg (fun z => c (h3.mp z))]; rfl
theorem ixP_in (x : Int) : inR (ixP x) := by
  unfold ixP
  split
  · decide
  split
  · decide
  split
  · decide
  · decide
theorem ctJ0_ix {x : Int} (h0 : 0 ≤ x) (h1 : x < 65536) : CtS yJ0_indexOf_0f7a4 cJ0_indexOf_0f7a4 2 (some .int) (rmS 3 70) adK adV A [.ref (adK 1), .int (Int32.ofInt x)] (some (Int32.ofInt (ixP x))) := by
  have hx : inR x := ⟨by omega, by omega⟩
  rw [← ixS_P hx]
  refine ctJ0_indexOf rfl (fun hc => ?_)
  have h2 : x < 256 := by
    rcases Int.lt_or_le x 256 with z | z
    · exact z
    · exact absurd (Or.inr ((oi_lt (x := 255) (by decide) hx).mpr (by omega))) hc
  have := ix_byte ⟨x.toNat, by omega⟩
  have e : Int32.ofNat x.toNat = Int32.ofInt x := by
    have e2 : x = ((x.toNat : Nat) : Int) := by omega
    rw [e2]
    rfl
  dsimp only at this
  rw [e] at this
  exact this
end SM
/-! ===== 'the letters of sounds, indexOf' as one row of V ===== -/
theorem v_idx {κ : Kx} {cc : ByteArray} {nL : Nat} {ret : Option FieldType} {rm : Room} {dom : Nat → Bool} {M : Mem} {pc : Nat} {lv : List (Option PV)} {st : List PV} {K : Kont} (C : Cx κ RX5 cc nL ret rm dom) {i : Fin 4} {x : Int} (hd1 : decode cc pc = .ok (.ldc 49, 2)) (hd2 : decode cc (pc + 2) = .ok (.iload_n i, 1)) (hd3 : decode cc (pc + 3) = .ok (.invokevirtual 51, 3)) (hv : lv[i.val]? = some (some (.inl x))) (h0 : 0 ≤ x) (h1 : x < 65536) (hw : IV RX5 51 yJ0_indexOf_0f7a4 cJ0_indexOf_0f7a4 2 (some .int) 1) (hR : RmOk (rmS 3 70) rm 2) (h8 : st.length ≤ 8) (k : V κ nL M (pc + 6) lv (.inl (ixP x) :: st) K) : V κ nL M pc lv st K := by
  refine ⟨?_, trivial⟩
  intro oM oL oS H locs ls hH hS hl
  obtain ⟨c1, c2, c3, c4, c5, c6, c7, c8, c9, c10, c11, c12, c13⟩ := id C
  obtain ⟨adK, adV, hY⟩ := c6.2
  refine va_ldcS c1 c2 c4 hY.2.2.2.2 hd1 ?_
  refine lv_iload_n c1 c2 hd2 rfl (prs_at hl hv) ?_
  have hR' : RmOk (rmS 3 70) κ.1.2.2.2.1 2 := by rw [c11]; exact hR
  exact w_invVS (As := [.int (Int32.ofInt x)]) c1 c2 c3 c4 c5 hY hS (i := 1) (by decide) rfl (ctJ0_ix h0 h1) hd3 hw hR' rfl hl.1 (rest_room st h8) ⟨Nat.zero_le _, Nat.zero_le _⟩ (k.1 oM oL ⟨ixP_in x, oS⟩ H locs ls hH hS hl)
end
