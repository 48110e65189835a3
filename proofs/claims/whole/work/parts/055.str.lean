/-! ===== String: isLatin1, coder, length, charAt, indexOf on the texts of the class: they change nothing ===== -/
abbrev Ks : Type := (Program × Launch × Env × Room × State) × (MethodId × Array Value × List Frame × Method × Code)
def QcS (r : Option Int32) : Array Value → State → Outcome → State → Prop := fun _ st o t => o = .returned (r.map fun x => .int x) ∧ t.heap = st.heap
def Cs (κ : Ks) (own : String) (cc : ByteArray) (nL : Nat) (ret : Option FieldType) (rm : Room) (adK adV : Nat → Nat) (A : Nat → Prop) : Prop :=
  κ.1.1.tables.exec = Jvm.exec ∧ κ.2.2.2.2.2.code = cc ∧ κ.2.2.2.2.2.maxLocals = nL ∧ κ.1.2.2.2.2.vm.findClass own = some κ.2.1.cls ∧ (∀ w ∈ tb, w.before κ.2.2.1 κ.1.2.2.2.2 = true) ∧ SY adK adV A κ.1.2.2.2.2 ∧ κ.2.2.2.2.1.locks = false ∧ κ.2.2.2.2.1.sig.returnType = ret ∧ κ.1.2.2.2.1 = rm
def SJ (κ : Ks) (nL pc : Nat) (lv : List (Nat × Value)) (st : List Value) (r : Option Int32) : Prop :=
  (∀ ls : Array Slot, lv_has ls nL lv → W κ.1.1 κ.1.2.1 κ.1.2.2.1 κ.1.2.2.2.1 κ.1.2.2.2.2 κ.2.1 κ.2.2.1 κ.2.2.2.1 κ.2.2.2.2.1 κ.2.2.2.2.2 κ.1.2.2.2.2.heap [] 0 0 (MQ κ.2.2.2.1 (QcS r) κ.2.2.1 κ.1.2.2.2.2 0 0 (fun _ => False)) (F0 κ.2.1 pc ls st)) ∧ True
def CtS (y : MethodName) (b : ByteArray) (mL : Nat) (rt : Option FieldType) (rm : Room) (adK adV : Nat → Nat) (A : Nat → Prop) (as : List Value) (r : Option Int32) : Prop :=
  ∀ l : Launch, Met l y (Cond.code y b mL rt :: tb) rm (va_Pc as (fun U => SY adK adV A U)) (QcS r) 0 0 (fun _ => False)
theorem PcS_blind {adK adV : Nat → Nat} {A : Nat → Prop} {as : List Value} : FrameBlind (va_Pc as (fun U => SY adK adV A U)) := by
  intro a U g mk h
  exact ⟨h.1, SY.same (u := U) (U := U.calling g mk a) rfl rfl h.2⟩
theorem cs_of {y : MethodName} {b : ByteArray} {mL : Nat} {rt : Option FieldType} {rm : Room} {adK adV : Nat → Nat} {A : Nat → Prop} {as : List Value} {r : Option Int32} (hy : plainName y.cls = true) (hlen : (lg_sl as).length ≤ mL)
    (h : ∀ κ : Ks, Cs κ y.cls b mL rt rm adK adV A → SJ κ mL 0 (lv_args 0 as) [] r) : CtS y b mL rt rm adK adV A as r := by
  intro l
  refine Met.ofW (cc := b) (maxL := mL) (ret := rt) hy rfl ?_
  intro p e s m args below meth c s₁ B hml hv
  obtain ⟨rfl, hY⟩ := hv
  have hts : ∀ w ∈ tb, w.before as.toArray s = true := fun w hw => atoms_spec (ws := Cond.code y b mL rt :: tb) B.pre w (List.mem_cons_of_mem _ hw)
  have hown : s.vm.findClass y.cls = some m.cls := findClass_of_methodNamed B.named
  have hl := lv_entry as (n := mL) hlen
  rw [lg_entry_eq]
  generalize (lg_sl as ++ List.replicate (mL - (lg_sl as).length) Slot.unset).toArray = ls at hl ⊢
  exact (h ((p, l, e, (headSpec (Cond.code y b mL rt :: tb) rm).room, s), (m, as.toArray, below, meth, c)) ⟨B.exec, B.bytes, hml, hown, hts, hY, B.notSynchronized, B.returns, rfl⟩).1 ls hl
section SR0
variable {κ : Ks} {own : String} {cc : ByteArray} {nL : Nat} {ret : Option FieldType} {rm : Room} {adK adV : Nat → Nat} {A : Nat → Prop} {pc : Nat} {lv : List (Nat × Value)} {st : List Value} {r : Option Int32}
theorem s_iconst (C : Cs κ own cc nL ret rm adK adV A) {n : Int} {v : Int32} (hd : decode cc pc = .ok (.iconst n, 1)) (hv : Int32.ofInt n = v) (k : SJ κ nL (pc + 1) lv (.int v :: st) r) : SJ κ nL pc lv st r := ⟨fun ls hl => lv_iconst C.1 C.2.1 hd hv (k.1 ls hl), trivial⟩
theorem s_sipush (C : Cs κ own cc nL ret rm adK adV A) {n : Int} {v : Int32} (hd : decode cc pc = .ok (.sipush n, 3)) (hv : (Int16.ofInt n).toInt32 = v) (k : SJ κ nL (pc + 3) lv (.int v :: st) r) : SJ κ nL pc lv st r := ⟨fun ls hl => lv_sipush C.1 C.2.1 hd hv (k.1 ls hl), trivial⟩
theorem s_aload_n (C : Cs κ own cc nL ret rm adK adV A) {i : Fin 4} {a : Nat} (hd : decode cc pc = .ok (.aload_n i, 1)) (q : Nat) (hv : lv[q]? = some (i.val, .ref a)) (k : SJ κ nL (pc + 1) lv (.ref a :: st) r) : SJ κ nL pc lv st r := ⟨fun ls hl => lv_aload_n C.1 C.2.1 hd rfl (lv_at hl q hv) (k.1 ls hl), trivial⟩
theorem s_iload_n (C : Cs κ own cc nL ret rm adK adV A) {i : Fin 4} {x : Int32} (hd : decode cc pc = .ok (.iload_n i, 1)) (q : Nat) (hv : lv[q]? = some (i.val, .int x)) (k : SJ κ nL (pc + 1) lv (.int x :: st) r) : SJ κ nL pc lv st r := ⟨fun ls hl => lv_iload_n C.1 C.2.1 hd rfl (lv_at hl q hv) (k.1 ls hl), trivial⟩
theorem s_iload (C : Cs κ own cc nL ret rm adK adV A) {i : Nat} {x : Int32} (hd : decode cc pc = .ok (.iload i, 2)) (q : Nat) (hv : lv[q]? = some (i, .int x)) (k : SJ κ nL (pc + 2) lv (.int x :: st) r) : SJ κ nL pc lv st r := ⟨fun ls hl => lv_iload C.1 C.2.1 hd (lv_at hl q hv) (k.1 ls hl), trivial⟩
theorem s_istore (C : Cs κ own cc nL ret rm adK adV A) {i : Nat} {x : Int32} {lv' : List (Nat × Value)} (hd : decode cc pc = .ok (.istore i, 2)) (hi : i < nL) (hv : (i, Value.int x) :: lv.filter (fun q => !(q.1 == i) && !(q.1 + 1 == i && q.2.category == 2)) = lv') (k : SJ κ nL (pc + 2) lv' st r) : SJ κ nL pc lv (.int x :: st) r := ⟨fun ls hl => lv_istore C.1 C.2.1 hd hl hi hv (fun ls' hl' => k.1 ls' hl'), trivial⟩
theorem s_istore_n (C : Cs κ own cc nL ret rm adK adV A) {i : Fin 4} {x : Int32} {lv' : List (Nat × Value)} (hd : decode cc pc = .ok (.istore_n i, 1)) (hi : i.val < nL) (hv : (i.val, Value.int x) :: lv.filter (fun q => !(q.1 == i.val) && !(q.1 + 1 == i.val && q.2.category == 2)) = lv') (k : SJ κ nL (pc + 1) lv' st r) : SJ κ nL pc lv (.int x :: st) r := ⟨fun ls hl => lv_istore_n C.1 C.2.1 hd rfl hl hi hv (fun ls' hl' => k.1 ls' hl'), trivial⟩
theorem s_iinc (C : Cs κ own cc nL ret rm adK adV A) {i : Nat} {n : Int} {x v : Int32} {lv' : List (Nat × Value)} (hd : decode cc pc = .ok (.iinc i n, 3)) (q : Nat) (hq : lv[q]? = some (i, .int x)) (hx : x + Int32.ofInt n = v) (hi : i < nL) (hv : (i, Value.int v) :: lv.filter (fun q => !(q.1 == i) && !(q.1 + 1 == i && q.2.category == 2)) = lv') (k : SJ κ nL (pc + 3) lv' st r) : SJ κ nL pc lv st r := ⟨fun ls hl => lv_iinc C.1 C.2.1 hd hl hq hx hi hv (fun ls' hl' => k.1 ls' hl'), trivial⟩
theorem s_goto (C : Cs κ own cc nL ret rm adK adV A) {off : Int} {tgt : Nat} (hd : decode cc pc = .ok (.goto off, 3)) (ht : (pc : Int) + off = (tgt : Int)) (k : SJ κ nL tgt lv st r) : SJ κ nL pc lv st r := ⟨fun ls hl => lv_goto C.1 C.2.1 hd ht (k.1 ls hl), trivial⟩
theorem s_pop (C : Cs κ own cc nL ret rm adK adV A) {x : Int32} (hd : decode cc pc = .ok (.pop, 1)) (k : SJ κ nL (pc + 1) lv st r) : SJ κ nL pc lv (.int x :: st) r := ⟨fun ls hl => lv_pop C.1 C.2.1 hd rfl (k.1 ls hl), trivial⟩
theorem s_ishr (C : Cs κ own cc nL ret rm adK adV A) {x y : Int32} (hd : decode cc pc = .ok (.ishr, 1)) (k : SJ κ nL (pc + 1) lv (.int (x >>> (y &&& 31)) :: st) r) : SJ κ nL pc lv (.int y :: .int x :: st) r := ⟨fun ls hl => lv_ishr C.1 C.2.1 hd (k.1 ls hl), trivial⟩
theorem s_iand (C : Cs κ own cc nL ret rm adK adV A) {x y : Int32} (hd : decode cc pc = .ok (.iand, 1)) (k : SJ κ nL (pc + 1) lv (.int (x &&& y) :: st) r) : SJ κ nL pc lv (.int y :: .int x :: st) r := ⟨fun ls hl => lv_iand C.1 C.2.1 hd (k.1 ls hl), trivial⟩
theorem s_i2b (C : Cs κ own cc nL ret rm adK adV A) {x v : Int32} (hd : decode cc pc = .ok (.i2b, 1)) (hv : x.toInt8.toInt32 = v) (k : SJ κ nL (pc + 1) lv (.int v :: st) r) : SJ κ nL pc lv (.int x :: st) r := ⟨fun ls hl => lv_i2b C.1 C.2.1 hd hv (k.1 ls hl), trivial⟩
theorem s_i2c (C : Cs κ own cc nL ret rm adK adV A) {x v : Int32} (hd : decode cc pc = .ok (.i2c, 1)) (hv : (x.toUInt32 % 65536).toInt32 = v) (k : SJ κ nL (pc + 1) lv (.int v :: st) r) : SJ κ nL pc lv (.int x :: st) r := ⟨fun ls hl => lv_i2c C.1 C.2.1 hd hv (k.1 ls hl), trivial⟩
theorem s_if_eq (C : Cs κ own cc nL ret rm adK adV A) {x : Int32} {off : Int} {tgt : Nat} (hd : decode cc pc = .ok (.ifCond .eq off, 3)) (ht : (pc : Int) + off = (tgt : Int)) (kt : x = 0 → SJ κ nL tgt lv st r) (kf : ¬ (x = 0) → SJ κ nL (pc + 3) lv st r) : SJ κ nL pc lv (.int x :: st) r := ⟨fun ls hl => lv_if_eq C.1 C.2.1 hd ht (fun h => (kt h).1 ls hl) (fun h => (kf (by simpa using h)).1 ls hl), trivial⟩
theorem s_if_ne (C : Cs κ own cc nL ret rm adK adV A) {x : Int32} {off : Int} {tgt : Nat} (hd : decode cc pc = .ok (.ifCond .ne off, 3)) (ht : (pc : Int) + off = (tgt : Int)) (kt : ¬ x = 0 → SJ κ nL tgt lv st r) (kf : ¬ (¬ x = 0) → SJ κ nL (pc + 3) lv st r) : SJ κ nL pc lv (.int x :: st) r := ⟨fun ls hl => lv_if_ne C.1 C.2.1 hd ht (fun h => (kt h).1 ls hl) (fun h => (kf (by simpa using h)).1 ls hl), trivial⟩
theorem s_if_lt (C : Cs κ own cc nL ret rm adK adV A) {x : Int32} {off : Int} {tgt : Nat} (hd : decode cc pc = .ok (.ifCond .lt off, 3)) (ht : (pc : Int) + off = (tgt : Int)) (kt : x < 0 → SJ κ nL tgt lv st r) (kf : ¬ (x < 0) → SJ κ nL (pc + 3) lv st r) : SJ κ nL pc lv (.int x :: st) r := ⟨fun ls hl => lv_if_lt C.1 C.2.1 hd ht (fun h => (kt h).1 ls hl) (fun h => (kf (by simpa using h)).1 ls hl), trivial⟩
theorem s_icmp_lt (C : Cs κ own cc nL ret rm adK adV A) {x y : Int32} {off : Int} {tgt : Nat} (hd : decode cc pc = .ok (.if_icmp .lt off, 3)) (ht : (pc : Int) + off = (tgt : Int)) (kt : x < y → SJ κ nL tgt lv st r) (kf : ¬ (x < y) → SJ κ nL (pc + 3) lv st r) : SJ κ nL pc lv (.int y :: .int x :: st) r := ⟨fun ls hl => lv_icmp_lt C.1 C.2.1 hd ht (fun h => (kt h).1 ls hl) (fun h => (kf (by simpa using h)).1 ls hl), trivial⟩
theorem s_icmp_ge (C : Cs κ own cc nL ret rm adK adV A) {x y : Int32} {off : Int} {tgt : Nat} (hd : decode cc pc = .ok (.if_icmp .ge off, 3)) (ht : (pc : Int) + off = (tgt : Int)) (kt : y ≤ x → SJ κ nL tgt lv st r) (kf : ¬ (y ≤ x) → SJ κ nL (pc + 3) lv st r) : SJ κ nL pc lv (.int y :: .int x :: st) r := ⟨fun ls hl => lv_icmp_ge C.1 C.2.1 hd ht (fun h => (kt h).1 ls hl) (fun h => (kf (by simpa using h)).1 ls hl), trivial⟩
theorem s_icmp_ne (C : Cs κ own cc nL ret rm adK adV A) {x y : Int32} {off : Int} {tgt : Nat} (hd : decode cc pc = .ok (.if_icmp .ne off, 3)) (ht : (pc : Int) + off = (tgt : Int)) (kt : ¬ x = y → SJ κ nL tgt lv st r) (kf : ¬ (¬ x = y) → SJ κ nL (pc + 3) lv st r) : SJ κ nL pc lv (.int y :: .int x :: st) r := ⟨fun ls hl => lv_icmp_ne C.1 C.2.1 hd ht (fun h => (kt h).1 ls hl) (fun h => (kf (by simpa using h)).1 ls hl), trivial⟩
theorem s_icmp_gt (C : Cs κ own cc nL ret rm adK adV A) {x y : Int32} {off : Int} {tgt : Nat} (hd : decode cc pc = .ok (.if_icmp .gt off, 3)) (ht : (pc : Int) + off = (tgt : Int)) (kt : y < x → SJ κ nL tgt lv st r) (kf : ¬ (y < x) → SJ κ nL (pc + 3) lv st r) : SJ κ nL pc lv (.int y :: .int x :: st) r := ⟨fun ls hl => lv_icmp_gt C.1 C.2.1 hd ht (fun h => (kt h).1 ls hl) (fun h => (kf (by simpa using h)).1 ls hl), trivial⟩
theorem s_val (C : Cs κ "java/lang/String" cc nL ret rm adK adV A) {i : Nat} (hi : i < 2) (hd : decode cc pc = .ok (.getfield 9, 3)) (hw : Cond.fieldLink "java/lang/String" 9 "java/lang/String" "value" "[B" ∈ tb) (k : SJ κ nL (pc + 3) lv (.ref (adV i) :: st) r) : SJ κ nL pc lv (.ref (adK i) :: st) r :=
  ⟨fun ls hl => vk_getf C.1 C.2.1 (C.2.2.2.2.2.1.1.1 i hi).2.2.1 va_S.rf C.2.2.2.1 (C.2.2.2.2.1 _ hw) (fun _ h => h) hd (k.1 ls hl), trivial⟩
theorem s_cod (C : Cs κ "java/lang/String" cc nL ret rm adK adV A) {i : Nat} (hi : i < 2) (hd : decode cc pc = .ok (.getfield 15, 3)) (hw : Cond.fieldLink "java/lang/String" 15 "java/lang/String" "coder" "B" ∈ tb) (k : SJ κ nL (pc + 3) lv (.int 0 :: st) r) : SJ κ nL pc lv (.ref (adK i) :: st) r :=
  ⟨fun ls hl => vk_getf C.1 C.2.1 (C.2.2.2.2.2.1.1.1 i hi).2.1 va_S.rf C.2.2.2.1 (C.2.2.2.2.1 _ hw) (fun _ h => h) hd (k.1 ls hl), trivial⟩
theorem s_cs (C : Cs κ "java/lang/String" cc nL ret rm adK adV A) (hd : decode cc pc = .ok (.getstatic 38, 3)) (hw : Cond.fieldLink "java/lang/String" 38 "java/lang/String" "COMPACT_STRINGS" "Z" ∈ tb) (k : SJ κ nL (pc + 3) lv (.int 1 :: st) r) : SJ κ nL pc lv st r :=
  ⟨fun ls hl => va_gets C.1 C.2.1 C.2.2.2.2.2.1.2.1 va_S.rf C.2.2.2.1 (C.2.2.2.2.1 _ hw) (fun _ h => h) hd (k.1 ls hl), trivial⟩
theorem s_fmt (C : Cs κ "java/lang/String" cc nL ret rm adK adV A) (hd : decode cc pc = .ok (.getstatic 1053, 3)) (hw : Cond.fieldLink "java/lang/String" 1053 "jdk/internal/util/Preconditions" "SIOOBE_FORMATTER" "Ljava/util/function/BiFunction;" ∈ tb) (k : ∀ v : Value, v.category = 1 → SJ κ nL (pc + 3) lv (v :: st) r) : SJ κ nL pc lv st r := by
  refine ⟨fun ls hl => ?_, trivial⟩
  rcases C.2.2.2.2.2.1.2.2.1 with h | ⟨t, h⟩
  · exact va_gets C.1 C.2.1 h va_S.rf C.2.2.2.1 (C.2.2.2.2.1 _ hw) (fun _ h => h) hd ((k _ rfl).1 ls hl)
  · exact va_gets C.1 C.2.1 h va_S.rf C.2.2.2.1 (C.2.2.2.2.1 _ hw) (fun _ h => h) hd ((k _ rfl).1 ls hl)
theorem s_alen (C : Cs κ own cc nL ret rm adK adV A) {i : Nat} (hi : i < 2) {v : Int32} (hv : Int32.ofNat (sLen.getD i 0) = v) (hd : decode cc pc = .ok (.arraylength, 1)) (k : SJ κ nL (pc + 1) lv (.int v :: st) r) : SJ κ nL pc lv (.ref (adV i) :: st) r :=
  ⟨fun ls hl => va_tlen C.1 C.2.1 (C.2.2.2.2.2.1.1.1 i hi).2.2.2 va_S.rf hv hd (k.1 ls hl), trivial⟩
theorem s_bald (C : Cs κ own cc nL ret rm adK adV A) {i : Nat} (hi : i < 2) {j : Int32} (hj : vp_in j (sLen.getD i 0)) (hd : decode cc pc = .ok (.baload, 1)) (k : SJ κ nL (pc + 1) lv (.int ((sByt.getD i []).getD j.toNatClampNeg 0) :: st) r) : SJ κ nL pc lv (.int j :: .ref (adV i) :: st) r :=
  ⟨fun ls hl => va_tb C.1 C.2.1 (C.2.2.2.2.2.1.1.1 i hi).2.2.2 va_S.rf hj rfl hd (k.1 ls hl), trivial⟩
theorem s_iret (C : Cs κ own cc nL (some .int) rm adK adV A) {x : Int32} (hd : decode cc pc = .ok (.ireturn, 1)) : SJ κ nL pc lv [.int x] (some x) :=
  ⟨fun ls hl => W.iret C.1 C.2.1 C.2.2.2.2.2.2.2.1 (fun t ht hW => ⟨rfl, ht⟩) (fun q hq => absurd hq List.not_mem_nil) hd C.2.2.2.2.2.2.1, trivial⟩
theorem s_zret {ty : FieldType} (C : Cs κ own cc nL (some ty) rm adK adV A) {x : Int32} (hn : narrow ty (.int x) = .int x) (hd : decode cc pc = .ok (.ireturn, 1)) : SJ κ nL pc lv [.int x] (some x) :=
  ⟨fun ls hl => W.zret C.1 C.2.1 C.2.2.2.2.2.2.2.1 hn (fun t ht hW => ⟨rfl, ht⟩) (fun q hq => absurd hq List.not_mem_nil) hd C.2.2.2.2.2.2.1, trivial⟩
theorem s_vret (C : Cs κ own cc nL none rm adK adV A) (hd : decode cc pc = .ok (.return_, 1)) : SJ κ nL pc lv [] none :=
  ⟨fun ls hl => W.vret C.1 C.2.1 C.2.2.2.2.2.2.2.1 (fun t ht hW => ⟨rfl, ht⟩) (fun q hq => absurd hq List.not_mem_nil) hd C.2.2.2.2.2.2.1, trivial⟩
theorem w_ranS {p : Program} {l : Launch} {e : Env} {R : Room} {s : State} {m : MethodId} {args : Array Value} {below : List Frame} {meth : Method} {c : Code} {H : Heap} {locs : List Loc} {cells slots : Nat} {Q : State → Prop} {ls : Array Slot} {st0 rest : List Value} {pc : Nat} {r1 : Option Int32} {aa : Array Value}
    (hr : va_Run p l e R s m args below meth c H locs cells slots 0 0 (F0 m pc ls st0) rest (QcS r1 aa) (fun _ => False)) (kk : W p l e R s m args below meth c H locs cells slots Q (F0 m (pc + 3) ls ((r1.map fun x => Value.int x).toList ++ rest))) : W p l e R s m args below meth c H locs cells slots Q (F0 m pc ls st0) := by
  intro T hT X
  obtain ⟨v, st₀, t, T', L, h0, X', hL, e1, e2, ⟨hv, hh⟩, stp⟩ := hr T hT X
  have eL : L = [] := by
    cases L with
    | nil => rfl
    | cons a b => exact (hL a List.mem_cons_self).elim
  subst eL
  rw [List.append_nil] at X'
  obtain ⟨t2, a1, b1⟩ := kk T' (by rw [e1, hh, h0]) X'
  have ev : v = r1.map fun x => .int x := by injection hv
  subst ev
  exact ⟨t2, stp t2 a1, b1⟩
theorem w_invVS {p : Program} {l : Launch} {e : Env} {R : Room} {s : State} {m : MethodId} {args : Array Value} {below : List Frame} {meth : Method} {c : Code} {H : Heap} {locs : List Loc} {cells slots : Nat} {Q : State → Prop} {ls : Array Slot} {rest As : List Value} {A0 : Nat → Prop} {y : MethodName} {b : ByteArray} {mL : Nat} {rt : Option FieldType} {rm' : Room} {r1 : Option Int32} {i idx n : Nat}
    (c1 : p.tables.exec = Jvm.exec) (c2 : c.code = cc) (c3 : c.maxLocals = nL) (c4 : s.vm.findClass own = some m.cls) (c5 : ∀ w ∈ tb, w.before args s = true) (hY : SY adK adV A0 s) (hS : va_S A0 s.heap H locs) (hi : i < 2) (hy : y.cls = "java/lang/String") (hM : CtS y b mL rt rm' adK adV A0 (.ref (adK i) :: As) r1) (hd : decode cc pc = .ok (.invokevirtual idx, 3)) (hw : IV own idx y b mL rt n) (hR : RmOk rm' R mL) (hn : As.length = n) (hls : ls.size = nL) (h8 : (rest.map fun v => v.category).sum ≤ 8) (hc : cells ≤ R.cells ∧ slots ≤ R.slots)
    (kk : W p l e R s m args below meth c H locs cells slots Q (F0 m (pc + 3) ls ((r1.map fun x => Value.int x).toList ++ rest))) : W p l e R s m args below meth c H locs cells slots Q (F0 m pc ls (As.reverse ++ .ref (adK i) :: rest)) := by
  obtain ⟨w1, w2, w3, w4, w5, w6⟩ := hw
  refine w_ranS (aa := (Value.ref (adK i) :: As).toArray) (va_runV (bytes := b) (maxL := mL) (ret := rt) (C := y.cls) (As := As) (b := adK i) (rest := rest) (n := n) ⟨c1, c2, c3, c4, c5⟩ (hM l) ?_ ⟨PcS_blind, ?_, ?_⟩ rfl hn hls rfl (lv_room h8) hd ⟨by omega, by omega⟩) kk
  · refine cwV n c5 ?_ rfl hR.2.2.1 hR.2.2.2 ⟨rfl, w6⟩ ⟨hR.1, hR.2.1⟩
    intro w hw'
    rcases List.mem_append.mp hw' with h | h
    · have : w ∈ tb := by
        simp only [List.mem_cons, List.not_mem_nil, or_false] at h
        rcases h with h | h | h | h <;> subst h <;> assumption
      exact ⟨this, good_of_word (List.mem_filter.mp this).2⟩
    · exact good_tb (fun w h => h) w5 w h
  · rw [hy]
    exact vk_recv hY.1 hi hS
  · intro U hU hW
    exact ⟨rfl, hY.warm hW (fun q a b => by rw [hU]; exact hS.2.1 q a b)⟩
theorem s_invV (C : Cs κ own cc nL ret rm adK adV A) {y : MethodName} {b : ByteArray} {mL : Nat} {rt : Option FieldType} {rm' : Room} {r1 : Option Int32} {i idx n : Nat} {As st0 : List Value} (hi : i < 2) (hy : y.cls = "java/lang/String") (hM : CtS y b mL rt rm' adK adV A (.ref (adK i) :: As) r1) (hd : decode cc pc = .ok (.invokevirtual idx, 3)) (hw : IV own idx y b mL rt n) (hR : RmOk rm' rm mL) (hn : As.length = n) (hst : st0 = As.reverse ++ .ref (adK i) :: st) (h8 : (st.map fun v => v.category).sum ≤ 8)
    (k : SJ κ nL (pc + 3) lv ((r1.map fun x => Value.int x).toList ++ st) r) : SJ κ nL pc lv st0 r := by
  subst hst
  refine ⟨fun ls hl => ?_, trivial⟩
  have hR' : RmOk rm' κ.1.2.2.2.1 mL := by rw [C.2.2.2.2.2.2.2.2]; exact hR
  exact w_invVS C.1 C.2.1 C.2.2.1 C.2.2.2.1 C.2.2.2.2.1 C.2.2.2.2.2.1 va_S.rf hi hy hM hd hw hR' hn hl.1 h8 ⟨Nat.zero_le _, Nat.zero_le _⟩ (k.1 ls hl)
theorem s_invS (C : Cs κ own cc nL ret rm adK adV A) {y : MethodName} {b : ByteArray} {mL : Nat} {rt : Option FieldType} {rm' : Room} {r1 : Option Int32} {idx n : Nat} {As st0 : List Value} (hM : CtS y b mL rt rm' adK adV A As r1) (hd : decode cc pc = .ok (.invokestatic idx, 3)) (hw : IS own idx y b mL rt n) (hR : RmOk rm' rm mL) (hn : As.length = n) (hst : st0 = As.reverse ++ st) (h8 : (st.map fun v => v.category).sum ≤ 8)
    (k : SJ κ nL (pc + 3) lv ((r1.map fun x => Value.int x).toList ++ st) r) : SJ κ nL pc lv st0 r := by
  subst hst
  refine ⟨fun ls hl => ?_, trivial⟩
  obtain ⟨c1, c2, c3, c4, c5, c6, c7, c8, c9⟩ := id C
  obtain ⟨w1, w2, w4, w5, w6⟩ := hw
  refine w_ranS (aa := As.toArray) (va_runS (bytes := b) (maxL := mL) (ret := rt) (As := As) (rest := st) (n := n) ⟨c1, c2, c3, c4, c5⟩ (hM κ.1.2.1) ?_ ⟨PcS_blind, ?_⟩ rfl hn hl.1 rfl (lv_room h8) hd ⟨by omega, by omega⟩) (k.1 ls hl)
  · rw [c9]
    exact ⟨callB_of n c5 (good_tb (fun w h => h) w5) rfl hR.2.2.1 hR.2.2.2 (c5 _ w4) (c5 _ w1) w6 ⟨hR.1, hR.2.1⟩, c5 _ w2⟩
  · intro U hU hW
    exact ⟨rfl, c6.warm hW (fun q a b => by rw [hU])⟩
end SR0
