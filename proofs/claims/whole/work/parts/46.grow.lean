theorem wdOI : Cond.instanceMethod Lib.objectInit ∈ tb := (tb_mem (t_in1 (List.mem_of_getElem? (i := 25) (by decide +kernel))) (by decide +kernel))
theorem wdOC : Cond.code Lib.objectInit ⟨#[0xb1]⟩ 1 none ∈ tb := (tb_mem (t_in1 (List.mem_of_getElem? (i := 26) (by decide +kernel))) (by decide +kernel))
theorem wdAC : Cond.arrayClass .char ∈ tb := (tb_mem (t_in1 (List.mem_of_getElem? (i := 46) (by decide +kernel))) (by decide +kernel))
theorem wdAI : Cond.arrayClass .int ∈ tb := (tb_mem (t_in1 (List.mem_of_getElem? (i := 47) (by decide +kernel))) (by decide +kernel))
/-! ===== a judgement over any world: P of the heap; cells and slots are counted ===== -/
abbrev Kg : Type := (Program × Launch × Env × Room × State) × (MethodId × Array Value × List Frame × Method × Code) × (va_G × CS × (Nat → Prop) × (State → Prop))
def G (κ : Kg) (nL n z : Nat) (P : Heap → Prop) (pc : Nat) (lv : List (Nat × Value)) (st : List Value) : Prop :=
  (∀ (H : Heap) (locs : List Loc) (ls : Array Slot), P H → va_S κ.2.2.2.2.1 κ.1.2.2.2.2.heap H locs → lv_has ls nL lv →
    W κ.1.1 κ.1.2.1 κ.1.2.2.1 κ.1.2.2.2.1 κ.1.2.2.2.2 κ.2.1.1 κ.2.1.2.1 κ.2.1.2.2.1 κ.2.1.2.2.2.1 κ.2.1.2.2.2.2 H locs n z κ.2.2.2.2.2 (F0 κ.2.1.1 pc ls st)) ∧ True
def Cg (κ : Kg) (own : String) (cc : ByteArray) (nL : Nat) (ret : Option FieldType) (rm : Room) : Prop :=
  κ.1.1.tables.exec = Jvm.exec ∧ κ.2.1.2.2.2.2.code = cc ∧ κ.2.1.2.2.2.2.maxLocals = nL ∧ κ.1.2.2.2.2.vm.findClass own = some κ.2.1.1.cls ∧ (∀ w ∈ tb, w.before κ.2.1.2.1 κ.1.2.2.2.2 = true) ∧ (NWX κ.1.2.2.2.2 ∧ SX κ.2.2.2.2.1 κ.1.2.2.2.2 ∧ va_AO RX3 κ.1.2.2.2.2) ∧
  va_K κ.2.2.1 classes (tysX κ.2.2.2.1) κ.1.2.2.2.2 ∧ (∀ q : Nat, κ.1.2.2.2.2.heap.size ≤ q → κ.2.2.2.2.1 q) ∧ κ.2.1.2.2.2.1.locks = false ∧ κ.2.1.2.2.2.1.sig.returnType = ret ∧ κ.1.2.2.2.1 = rm
def PcI (D : va_G) (cs : CS) (as : List Value) (wp : va_W) (sz : Nat) : Array Value → State → Prop :=
  va_Pc as (fun U => U.heap.size = sz ∧ va_K D classes (tysX cs) U ∧ (NWX U ∧ SX (va_A wp sz) U ∧ va_AO RX3 U) ∧ va_P D classes wp U.heap)
def QcI (A : Nat → Prop) (B : Heap → Prop) : Array Value → State → Outcome → State → Prop := fun _ st o t => (o = .returned none ∧ B t.heap) ∧ va_F A st t
/-- a constructor's contract: its own cell, and what it has made then -/
def CtI (y : MethodName) (b : ByteArray) (mL : Nat) (rm : Room) (as : List Value) (wp : CS → Nat × va_E) (B : va_G → CS → (Nat → Prop) → Heap → Prop) : Prop :=
  ∀ (l : Launch) (D : va_G) (cs : CS) (sz : Nat), Met l y (Cond.code y b mL none :: tb) rm (PcI D cs as [wp cs] sz) (QcI (va_A [wp cs] sz) (B D cs (va_A [wp cs] sz))) rm.cells rm.slots (va_A [wp cs] sz)
theorem PcI_blind {D : va_G} {cs : CS} {as : List Value} {wp : va_W} {sz : Nat} : FrameBlind (PcI D cs as wp sz) := by
  intro a U g mk h
  obtain ⟨e, h0, h1, h2, h3⟩ := h
  exact ⟨e, h0, va_K.moved (u := U) (U := U.calling g mk a) (Vm.Alike.refl U.vm) h1, ⟨NWX.same (u := U) (U := U.calling g mk a) rfl h2.1, SX.same (u := U) (U := U.calling g mk a) rfl rfl h2.2.1, va_AO.moved (u := U) (U := U.calling g mk a) (Vm.Alike.refl U.vm) h2.2.2⟩, h3⟩
theorem va_D_one {q : Nat × va_E} {A : Nat → Prop} (h : A q.1) : va_D A [q] := by
  refine ⟨fun i j x y hx hy _ => ?_, fun k x hx => ?_⟩
  · have h1 : i < 1 := (List.getElem?_eq_some_iff.mp hx).1
    have h2 : j < 1 := (List.getElem?_eq_some_iff.mp hy).1
    omega
  · have h1 : k < 1 := (List.getElem?_eq_some_iff.mp hx).1
    rw [show k = 0 by omega] at hx
    cases hx
    exact h
abbrev LW (κ : Kg) (ws : va_W) : Heap → Prop := fun H => va_P κ.2.2.1 classes ws H ∧ va_D κ.2.2.2.2.1 ws
theorem ci_of {y : MethodName} {b : ByteArray} {mL : Nat} {rm : Room} {as : List Value} {wp : CS → Nat × va_E} {B : va_G → CS → (Nat → Prop) → Heap → Prop} (hy : plainName y.cls = true) (hlen : (lg_sl as).length ≤ mL)
    (h : ∀ κ : Kg, Cg κ y.cls b mL none rm → κ.2.1.2.2.2.1.name = y.name → κ.2.2.2.2.2 = MQ κ.2.1.2.2.1 (QcI κ.2.2.2.2.1 (B κ.2.2.1 κ.2.2.2.1 κ.2.2.2.2.1)) κ.2.1.2.1 κ.1.2.2.2.2 rm.cells rm.slots κ.2.2.2.2.1 → G κ mL 0 0 (LW κ [wp κ.2.2.2.1]) 0 (lv_args 0 as) []) : CtI y b mL rm as wp B := by
  intro l D cs sz
  refine Met.ofW (cc := b) (maxL := mL) (ret := none) hy rfl ?_
  intro p e s m args below meth c s₁ B0 hml hv
  obtain ⟨rfl, hsz, hK, hN, hP⟩ := hv
  subst hsz
  have hts : ∀ w ∈ tb, w.before as.toArray s = true := fun w hw => atoms_spec (ws := Cond.code y b mL none :: tb) B0.pre w (List.mem_cons_of_mem _ hw)
  have hown : s.vm.findClass y.cls = some m.cls := findClass_of_methodNamed B0.named
  have hin : meth.name = y.name := (name_of_methodNamed B0.named B0.method).1
  have hl := lv_entry as (n := mL) hlen
  rw [lg_entry_eq]
  generalize (lg_sl as ++ List.replicate (mL - (lg_sl as).length) Slot.unset).toArray = ls at hl ⊢
  exact (h ((p, l, e, (headSpec (Cond.code y b mL none :: tb) rm).room, s), (m, as.toArray, below, meth, c), (D, cs, va_A [wp cs] s.heap.size, MQ below (QcI (va_A [wp cs] s.heap.size) (B D cs (va_A [wp cs] s.heap.size))) as.toArray s rm.cells rm.slots (va_A [wp cs] s.heap.size)))
    ⟨B0.exec, B0.bytes, hml, hown, hts, hN, hK, fun q hq => Or.inr hq, B0.notSynchronized, B0.returns, rfl⟩ hin rfl).1 s.heap [] ls ⟨hP, va_D_one (va_A.in (k := 0) rfl)⟩ va_S.rf hl
theorem va_nd_of : ∀ l : List Nat, l.Nodup → va_nd l = true
  | [], _ => rfl
  | a :: l, h => by simp [va_nd, va_nd_of l (List.nodup_cons.mp h).2, (List.nodup_cons.mp h).1]
theorem va_nd_range (n : Nat) : va_nd (List.range n) = true := va_nd_of _ List.nodup_range
section GR
variable {κ : Kg} {own : String} {cc : ByteArray} {nL : Nat} {ret : Option FieldType} {rm : Room} {n z : Nat} {P : Heap → Prop} {pc : Nat} {lv : List (Nat × Value)} {st : List Value}
theorem g_cons {P' : Heap → Prop} (h : ∀ H, P H → P' H) (k : G κ nL n z P' pc lv st) : G κ nL n z P pc lv st := ⟨fun H locs ls hP hS hl => k.1 H locs ls (h H hP) hS hl, trivial⟩
theorem g_ex {S : Type} {P' : S → Heap → Prop} (h : ∀ H, P H → ∃ u, P' u H) (k : ∀ u, G κ nL n z (P' u) pc lv st) : G κ nL n z P pc lv st := ⟨fun H locs ls hP hS hl => by
  obtain ⟨u, hu⟩ := h H hP
  exact (k u).1 H locs ls hu hS hl, trivial⟩
theorem g_pure {φ : Prop} (h : ∀ H, P H → φ) (k : φ → G κ nL n z P pc lv st) : G κ nL n z P pc lv st := ⟨fun H locs ls hP hS hl => (k (h H hP)).1 H locs ls hP hS hl, trivial⟩
theorem g_sub {lv' : List (Nat × Value)} (is : List Nat) (hs : is.filterMap (fun i => lv[i]?) = lv') (k : G κ nL n z P pc lv' st) : G κ nL n z P pc lv st := ⟨fun H locs ls hP hS hl => k.1 H locs ls hP hS (lv_sub hl is hs), trivial⟩
theorem g_bipush (C : Cg κ own cc nL ret rm) {i0 : Int} {v : Int32} (hd : decode cc pc = .ok (.bipush i0, 2)) (hv : (Int8.ofInt i0).toInt32 = v) (k : G κ nL n z P (pc + 2) lv (.int v :: st)) : G κ nL n z P pc lv st := ⟨fun H locs ls hP hS hl => lv_bipush C.1 C.2.1 hd hv (k.1 H locs ls hP hS hl), trivial⟩
theorem g_dup (C : Cg κ own cc nL ret rm) {v : Value} (hc : v.category = 1) (hd : decode cc pc = .ok (.dup, 1)) (k : G κ nL n z P (pc + 1) lv (v :: v :: st)) : G κ nL n z P pc lv (v :: st) := ⟨fun H locs ls hP hS hl => lv_dup C.1 C.2.1 hd hc (k.1 H locs ls hP hS hl), trivial⟩
theorem g_iadd (C : Cg κ own cc nL ret rm) {x y v : Int32} (hd : decode cc pc = .ok (.iadd, 1)) (hv : x + y = v) (k : G κ nL n z P (pc + 1) lv (.int v :: st)) : G κ nL n z P pc lv (.int y :: .int x :: st) := ⟨fun H locs ls hP hS hl => lv_iadd C.1 C.2.1 hd (by rw [hv]; exact k.1 H locs ls hP hS hl), trivial⟩
theorem g_isub (C : Cg κ own cc nL ret rm) {x y v : Int32} (hd : decode cc pc = .ok (.isub, 1)) (hv : x - y = v) (k : G κ nL n z P (pc + 1) lv (.int v :: st)) : G κ nL n z P pc lv (.int y :: .int x :: st) := ⟨fun H locs ls hP hS hl => lv_isub C.1 C.2.1 hd (by rw [hv]; exact k.1 H locs ls hP hS hl), trivial⟩
theorem g_astore_n (C : Cg κ own cc nL ret rm) {i : Fin 4} {a : Nat} {lv' : List (Nat × Value)} (hd : decode cc pc = .ok (.astore_n i, 1)) (hi : i.val < nL) (hv : (i.val, Value.ref a) :: lv.filter (fun q => !(q.1 == i.val) && !(q.1 + 1 == i.val && q.2.category == 2)) = lv') (k : G κ nL n z P (pc + 1) lv' st) : G κ nL n z P pc lv (.ref a :: st) := ⟨fun H locs ls hP hS hl => lv_astore_n C.1 C.2.1 hd rfl hl hi hv (fun ls' hl' => k.1 H locs ls' hP hS hl'), trivial⟩
theorem g_icmp_eq (C : Cg κ own cc nL ret rm) {x y : Int32} {off : Int} {tgt : Nat} (hd : decode cc pc = .ok (.if_icmp .eq off, 3)) (ht : (pc : Int) + off = (tgt : Int)) (kt : x = y → G κ nL n z P tgt lv st) (kf : ¬ (x = y) → G κ nL n z P (pc + 3) lv st) : G κ nL n z P pc lv (.int y :: .int x :: st) := ⟨fun H locs ls hP hS hl => lv_icmp_eq C.1 C.2.1 hd ht (fun h => (kt h).1 H locs ls hP hS hl) (fun h => (kf (by simpa using h)).1 H locs ls hP hS hl), trivial⟩
theorem g_iconst (C : Cg κ own cc nL ret rm) {i0 : Int} {v : Int32} (hd : decode cc pc = .ok (.iconst i0, 1)) (hv : Int32.ofInt i0 = v) (k : G κ nL n z P (pc + 1) lv (.int v :: st)) : G κ nL n z P pc lv st := ⟨fun H locs ls hP hS hl => lv_iconst C.1 C.2.1 hd hv (k.1 H locs ls hP hS hl), trivial⟩
theorem g_sipush (C : Cg κ own cc nL ret rm) {i0 : Int} {v : Int32} (hd : decode cc pc = .ok (.sipush i0, 3)) (hv : (Int16.ofInt i0).toInt32 = v) (k : G κ nL n z P (pc + 3) lv (.int v :: st)) : G κ nL n z P pc lv st := ⟨fun H locs ls hP hS hl => lv_sipush C.1 C.2.1 hd hv (k.1 H locs ls hP hS hl), trivial⟩
theorem g_aload_n (C : Cg κ own cc nL ret rm) {i : Fin 4} {a : Nat} (hd : decode cc pc = .ok (.aload_n i, 1)) (q : Nat) (hv : lv[q]? = some (i.val, .ref a)) (k : G κ nL n z P (pc + 1) lv (.ref a :: st)) : G κ nL n z P pc lv st := ⟨fun H locs ls hP hS hl => lv_aload_n C.1 C.2.1 hd rfl (lv_at hl q hv) (k.1 H locs ls hP hS hl), trivial⟩
theorem g_iload_n (C : Cg κ own cc nL ret rm) {i : Fin 4} {x : Int32} (hd : decode cc pc = .ok (.iload_n i, 1)) (q : Nat) (hv : lv[q]? = some (i.val, .int x)) (k : G κ nL n z P (pc + 1) lv (.int x :: st)) : G κ nL n z P pc lv st := ⟨fun H locs ls hP hS hl => lv_iload_n C.1 C.2.1 hd rfl (lv_at hl q hv) (k.1 H locs ls hP hS hl), trivial⟩
theorem g_iload (C : Cg κ own cc nL ret rm) {i : Nat} {x : Int32} (hd : decode cc pc = .ok (.iload i, 2)) (q : Nat) (hv : lv[q]? = some (i, .int x)) (k : G κ nL n z P (pc + 2) lv (.int x :: st)) : G κ nL n z P pc lv st := ⟨fun H locs ls hP hS hl => lv_iload C.1 C.2.1 hd (lv_at hl q hv) (k.1 H locs ls hP hS hl), trivial⟩
theorem g_istore (C : Cg κ own cc nL ret rm) {i : Nat} {x : Int32} {lv' : List (Nat × Value)} (hd : decode cc pc = .ok (.istore i, 2)) (hi : i < nL) (hv : (i, Value.int x) :: lv.filter (fun q => !(q.1 == i) && !(q.1 + 1 == i && q.2.category == 2)) = lv') (k : G κ nL n z P (pc + 2) lv' st) : G κ nL n z P pc lv (.int x :: st) := ⟨fun H locs ls hP hS hl => lv_istore C.1 C.2.1 hd hl hi hv (fun ls' hl' => k.1 H locs ls' hP hS hl'), trivial⟩
theorem g_istore_n (C : Cg κ own cc nL ret rm) {i : Fin 4} {x : Int32} {lv' : List (Nat × Value)} (hd : decode cc pc = .ok (.istore_n i, 1)) (hi : i.val < nL) (hv : (i.val, Value.int x) :: lv.filter (fun q => !(q.1 == i.val) && !(q.1 + 1 == i.val && q.2.category == 2)) = lv') (k : G κ nL n z P (pc + 1) lv' st) : G κ nL n z P pc lv (.int x :: st) := ⟨fun H locs ls hP hS hl => lv_istore_n C.1 C.2.1 hd rfl hl hi hv (fun ls' hl' => k.1 H locs ls' hP hS hl'), trivial⟩
theorem g_iinc (C : Cg κ own cc nL ret rm) {i : Nat} {i0 : Int} {x v : Int32} {lv' : List (Nat × Value)} (hd : decode cc pc = .ok (.iinc i i0, 3)) (q : Nat) (hq : lv[q]? = some (i, .int x)) (hx : x + Int32.ofInt i0 = v) (hi : i < nL) (hv : (i, Value.int v) :: lv.filter (fun q => !(q.1 == i) && !(q.1 + 1 == i && q.2.category == 2)) = lv') (k : G κ nL n z P (pc + 3) lv' st) : G κ nL n z P pc lv st := ⟨fun H locs ls hP hS hl => lv_iinc C.1 C.2.1 hd hl hq hx hi hv (fun ls' hl' => k.1 H locs ls' hP hS hl'), trivial⟩
theorem g_goto (C : Cg κ own cc nL ret rm) {off : Int} {tgt : Nat} (hd : decode cc pc = .ok (.goto off, 3)) (ht : (pc : Int) + off = (tgt : Int)) (k : G κ nL n z P tgt lv st) : G κ nL n z P pc lv st := ⟨fun H locs ls hP hS hl => lv_goto C.1 C.2.1 hd ht (k.1 H locs ls hP hS hl), trivial⟩
theorem g_pop (C : Cg κ own cc nL ret rm) {x : Int32} (hd : decode cc pc = .ok (.pop, 1)) (k : G κ nL n z P (pc + 1) lv st) : G κ nL n z P pc lv (.int x :: st) := ⟨fun H locs ls hP hS hl => lv_pop C.1 C.2.1 hd rfl (k.1 H locs ls hP hS hl), trivial⟩
theorem g_iand (C : Cg κ own cc nL ret rm) {x y : Int32} (hd : decode cc pc = .ok (.iand, 1)) (k : G κ nL n z P (pc + 1) lv (.int (x &&& y) :: st)) : G κ nL n z P pc lv (.int y :: .int x :: st) := ⟨fun H locs ls hP hS hl => lv_iand C.1 C.2.1 hd (k.1 H locs ls hP hS hl), trivial⟩
theorem g_icmp_lt (C : Cg κ own cc nL ret rm) {x y : Int32} {off : Int} {tgt : Nat} (hd : decode cc pc = .ok (.if_icmp .lt off, 3)) (ht : (pc : Int) + off = (tgt : Int)) (kt : x < y → G κ nL n z P tgt lv st) (kf : ¬ (x < y) → G κ nL n z P (pc + 3) lv st) : G κ nL n z P pc lv (.int y :: .int x :: st) := ⟨fun H locs ls hP hS hl => lv_icmp_lt C.1 C.2.1 hd ht (fun h => (kt h).1 H locs ls hP hS hl) (fun h => (kf (by simpa using h)).1 H locs ls hP hS hl), trivial⟩
theorem g_icmp_ge (C : Cg κ own cc nL ret rm) {x y : Int32} {off : Int} {tgt : Nat} (hd : decode cc pc = .ok (.if_icmp .ge off, 3)) (ht : (pc : Int) + off = (tgt : Int)) (kt : y ≤ x → G κ nL n z P tgt lv st) (kf : ¬ (y ≤ x) → G κ nL n z P (pc + 3) lv st) : G κ nL n z P pc lv (.int y :: .int x :: st) := ⟨fun H locs ls hP hS hl => lv_icmp_ge C.1 C.2.1 hd ht (fun h => (kt h).1 H locs ls hP hS hl) (fun h => (kf (by simpa using h)).1 H locs ls hP hS hl), trivial⟩
theorem g_icmp_ne (C : Cg κ own cc nL ret rm) {x y : Int32} {off : Int} {tgt : Nat} (hd : decode cc pc = .ok (.if_icmp .ne off, 3)) (ht : (pc : Int) + off = (tgt : Int)) (kt : ¬ x = y → G κ nL n z P tgt lv st) (kf : ¬ (¬ x = y) → G κ nL n z P (pc + 3) lv st) : G κ nL n z P pc lv (.int y :: .int x :: st) := ⟨fun H locs ls hP hS hl => lv_icmp_ne C.1 C.2.1 hd ht (fun h => (kt h).1 H locs ls hP hS hl) (fun h => (kf (by simpa using h)).1 H locs ls hP hS hl), trivial⟩
theorem g_icmp_gt (C : Cg κ own cc nL ret rm) {x y : Int32} {off : Int} {tgt : Nat} (hd : decode cc pc = .ok (.if_icmp .gt off, 3)) (ht : (pc : Int) + off = (tgt : Int)) (kt : y < x → G κ nL n z P tgt lv st) (kf : ¬ (y < x) → G κ nL n z P (pc + 3) lv st) : G κ nL n z P pc lv (.int y :: .int x :: st) := ⟨fun H locs ls hP hS hl => lv_icmp_gt C.1 C.2.1 hd ht (fun h => (kt h).1 H locs ls hP hS hl) (fun h => (kf (by simpa using h)).1 H locs ls hP hS hl), trivial⟩
theorem g_if_eq (C : Cg κ own cc nL ret rm) {x : Int32} {off : Int} {tgt : Nat} (hd : decode cc pc = .ok (.ifCond .eq off, 3)) (ht : (pc : Int) + off = (tgt : Int)) (kt : x = 0 → G κ nL n z P tgt lv st) (kf : ¬ (x = 0) → G κ nL n z P (pc + 3) lv st) : G κ nL n z P pc lv (.int x :: st) := ⟨fun H locs ls hP hS hl => lv_if_eq C.1 C.2.1 hd ht (fun h => (kt h).1 H locs ls hP hS hl) (fun h => (kf (by simpa using h)).1 H locs ls hP hS hl), trivial⟩

/-! the end of a constructor -/
theorem g_vret (C : Cg κ own cc nL none rm) {B : Heap → Prop} (hq : κ.2.2.2.2.2 = MQ κ.2.1.2.2.1 (QcI κ.2.2.2.2.1 B) κ.2.1.2.1 κ.1.2.2.2.2 n z κ.2.2.2.2.1) (hd : decode cc pc = .ok (.return_, 1)) (h : ∀ H, P H → B H) : G κ nL n z P pc lv [] := by
  refine ⟨fun H locs ls hP hS hl => ?_, trivial⟩
  rw [hq]
  exact W.vret C.1 C.2.1 C.2.2.2.2.2.2.2.2.2.1 (fun t ht hW => ⟨⟨rfl, by rw [ht]; exact h H hP⟩, hS.F ht⟩) hS.2.2 hd C.2.2.2.2.2.2.2.2.1
theorem g_obj (C : Cg κ own cc nL ret rm) {idx a : Nat} (hd : decode cc pc = .ok (.invokespecial idx, 3)) (hw : Cond.methodLink own idx Lib.objectInit ∈ tb) (h8 : (st.map fun v => v.category).sum ≤ 8) (hR : 1 ≤ rm.frames ∧ 20 ≤ rm.locals) (k : G κ nL n z P (pc + 3) lv st) : G κ nL n z P pc lv (.ref a :: st) := by
  refine ⟨fun H locs ls hP hS hl => ?_, trivial⟩
  obtain ⟨c1, c2, c3, c4, c5, c6, c7, c8, c9, c10, c11⟩ := id C
  exact W.objInit c1 c2 c4 (c5 _ hw) (c5 _ wdOI) (c5 _ wdOC) rfl (by rw [c3]; exact hl.1) rfl hd (by rw [c11]; exact hR.1) (by rw [c11]; have := hR.2; show 2 * 0 + _ + 12 ≤ _; omega) (k.1 H locs ls hP hS hl)
theorem g_newi (C : Cg κ own cc nL ret rm) {nn : Int32} {N : Nat} {ws : va_W} (hd : decode cc pc = .ok (.newarray .int, 2)) (hn : ¬ nn < 0) (hN : nn.toNatClampNeg = N) (hb : N * 4 ≤ 536870912) (hc : n + 1 ≤ rm.cells ∧ z + N ≤ rm.slots)
    (k : ∀ q : Nat, G κ nL (n + 1) (z + N) (LW κ (ws ++ [(q, .inl (κ.2.2.2.1.1, N, .inl (fun _ => 0)))])) (pc + 2) lv (.ref q :: st)) : G κ nL n z (LW κ ws) pc lv (.int nn :: st) := by
  refine ⟨fun H locs ls hP hS hl => ?_, trivial⟩
  obtain ⟨c1, c2, c3, c4, c5, c6, c7, c8, c9, c10, c11⟩ := id C
  refine va_newa (atype := .int) (ty := .int) c1 c2 (c5 _ wdAI) rfl c7 hP.1 hP.2 hS c8 (a0 := (N, .inl (fun _ => 0))) (fun cA => rfl) hn hN hb (by rw [c11]; exact hc.1) (by rw [c11]; exact hc.2) hd (fun q cA H1 hK hP1 hD1 hS1 => ?_)
  have e1 := (hK.2 3 (cA, .int) rfl).2
  have e2 := (c7.2 0 (κ.2.2.2.1.1, .int) rfl).2
  have e : cA = κ.2.2.2.1.1 := Option.some.inj (e1.symm.trans e2)
  rw [e] at hP1 hD1
  exact (k q).1 H1 locs ls ⟨hP1, hD1⟩ hS1 hl
theorem g_newc (C : Cg κ own cc nL ret rm) {nn : Int32} {N : Nat} {ws : va_W} (hd : decode cc pc = .ok (.newarray .char, 2)) (hn : ¬ nn < 0) (hN : nn.toNatClampNeg = N) (hb : N * 2 ≤ 536870912) (hc : n + 1 ≤ rm.cells ∧ z + N ≤ rm.slots)
    (k : ∀ q : Nat, G κ nL (n + 1) (z + N) (LW κ (ws ++ [(q, .inl (κ.2.2.2.1.2.1, N, .inl (fun _ => 0)))])) (pc + 2) lv (.ref q :: st)) : G κ nL n z (LW κ ws) pc lv (.int nn :: st) := by
  refine ⟨fun H locs ls hP hS hl => ?_, trivial⟩
  obtain ⟨c1, c2, c3, c4, c5, c6, c7, c8, c9, c10, c11⟩ := id C
  refine va_newa (atype := .char) (ty := .char) c1 c2 (c5 _ wdAC) rfl c7 hP.1 hP.2 hS c8 (a0 := (N, .inl (fun _ => 0))) (fun cA => rfl) hn hN hb (by rw [c11]; exact hc.1) (by rw [c11]; exact hc.2) hd (fun q cA H1 hK hP1 hD1 hS1 => ?_)
  have e1 := (hK.2 3 (cA, .char) rfl).2
  have e2 := (c7.2 1 (κ.2.2.2.1.2.1, .char) rfl).2
  have e : cA = κ.2.2.2.1.2.1 := Option.some.inj (e1.symm.trans e2)
  rw [e] at hP1 hD1
  exact (k q).1 H1 locs ls ⟨hP1, hD1⟩ hS1 hl
theorem g_newp (C : Cg κ own cc nL ret rm) {idx : Nat} {nn : Int32} {N : Nat} {ws : va_W} (hd : decode cc pc = .ok (.anewarray idx, 3)) (hw : Cond.classLink own idx RX3 ∈ tb) (hn : ¬ nn < 0) (hN : nn.toNatClampNeg = N) (hb : N * 4 ≤ 536870912) (hc : n + 1 ≤ rm.cells ∧ z + N ≤ rm.slots)
    (k : ∀ q : Nat, G κ nL (n + 1) (z + N) (LW κ (ws ++ [(q, .inl (κ.2.2.2.1.2.2, N, .inr (.inr (.inr (.inr (fun _ => none))))))])) (pc + 3) lv (.ref q :: st)) : G κ nL n z (LW κ ws) pc lv (.int nn :: st) := by
  refine ⟨fun H locs ls hP hS hl => ?_, trivial⟩
  obtain ⟨c1, c2, c3, c4, c5, c6, c7, c8, c9, c10, c11⟩ := id C
  refine va_newq c1 c2 c4 (c5 _ hw) c6.2.2 c7 hP.1 hP.2 hS c8 hn hN hb (by rw [c11]; exact hc.1) (by rw [c11]; exact hc.2) hd (fun q cA H1 hK hP1 hD1 hS1 => ?_)
  obtain ⟨_, _, _, _, _, e1⟩ := (hK.2 3 (cA, .object RX3) rfl).2
  obtain ⟨_, _, _, _, _, e2⟩ := (c7.2 2 (κ.2.2.2.1.2.2, .object RX3) rfl).2
  have e : cA = κ.2.2.2.1.2.2 := Option.some.inj (e1.symm.trans e2)
  rw [e] at hP1 hD1
  exact (k q).1 H1 locs ls ⟨hP1, hD1⟩ hS1 hl
def NWd (own : String) (idx ci N : Nat) (fs : List Value) : Prop := ∃ (Cn : String) (T : u_T) (ty : Nat → FieldType), classes[ci]? = some (Cn, T, N) ∧ (∀ w ∈ u_ws Cn T N, w ∈ tb) ∧ (∀ k, k < N → parseFieldDescriptor (T k).2.2.1 = some (ty k)) ∧ Cond.classLink own idx Cn ∈ tb ∧ Cond.instantiable Cn N ∈ tb ∧ Cond.initialized Cn ∈ tb ∧ ∀ j, j < N → defaultValue (ty j) = vp_V fs j
theorem g_new (C : Cg κ own cc nL ret rm) {idx ci N : Nat} {fs : List Value} {ws : va_W} (hd : decode cc pc = .ok (.new idx, 3)) (hw : NWd own idx ci N fs) (hc : n + 1 ≤ rm.cells ∧ z + N ≤ rm.slots)
    (k : ∀ q : Nat, G κ nL (n + 1) (z + N) (LW κ (ws ++ [(q, .inr (ci, fs))])) (pc + 3) lv (.ref q :: st)) : G κ nL n z (LW κ ws) pc lv st := by
  refine ⟨fun H locs ls hP hS hl => ?_, trivial⟩
  obtain ⟨c1, c2, c3, c4, c5, c6, c7, c8, c9, c10, c11⟩ := id C
  obtain ⟨Cn, T, ty, w1, w2, w3, w4, w5, w6, w7⟩ := hw
  exact va_new c1 c2 c5 w2 ty w3 c4 (c5 _ w4) (c5 _ w5) (c5 _ w6) c7 hP.1 hP.2 hS c8 w1 w7 (by rw [c11]; exact hc.1) (by rw [c11]; exact hc.2) hd (fun q H1 hP1 hD1 hS1 => (k q).1 H1 locs ls ⟨hP1, hD1⟩ hS1 hl)
/-- a final field, written in a constructor of its class -/
def PF (own : String) (idx ci k : Nat) (ty : FieldType) : Prop := ∃ (Cn : String) (T : u_T) (N : Nat) (ty0 : Nat → FieldType), classes[ci]? = some (Cn, T, N) ∧ k < N ∧ (∀ w ∈ u_ws Cn T N, w ∈ tb) ∧ Cond.fieldLink own idx (T k).1 (T k).2.1 (T k).2.2.1 ∈ tb ∧ (T k).2.2.2 = true ∧ (T k).1 = own ∧ parseFieldDescriptor (T k).2.2.1 = some ty ∧ (∀ k, k < N → parseFieldDescriptor (T k).2.2.1 = some (ty0 k)) ∧ (∀ a, a < N → ∀ b, b < N → a ≠ b → (T a).2.1 ≠ (T b).2.1)
theorem g_putF (C : Cg κ own cc nL ret rm) (hin : κ.2.1.2.2.2.1.name = "<init>") {idx ci k a q : Nat} {ty : FieldType} {fs : List Value} {ws ws' : va_W} (q0 : Nat) (hd : decode cc pc = .ok (.putfield idx, 3)) (hw : PF own idx ci k ty) (he : ws[q0]? = some (a, .inr (ci, fs))) (hl0 : k < fs.length) (hn : narrow ty (.ref q) = .ref q) (hf : fits ty (.ref q) = true) (hs : ws.set q0 (a, .inr (ci, fs.set k (.ref q))) = ws')
    (kk : G κ nL n z (LW κ ws') (pc + 3) lv st) : G κ nL n z (LW κ ws) pc lv (.ref q :: .ref a :: st) := by
  refine ⟨fun H locs ls hP hS hl => ?_, trivial⟩
  subst hs
  obtain ⟨c1, c2, c3, c4, c5, c6, c7, c8, c9, c10, c11⟩ := id C
  obtain ⟨Cn, T, N, ty0, w1, w2, w3, w4, w5, w6, w7, w8, w9⟩ := hw
  exact va_putF c1 c2 c5 w3 ty0 w8 w9 c4 c7 hP.1 hP.2 hS q0 he w1 k w2 (c5 _ w4) (fun _ h9 => h9) w5 hin w6 w7 hn hf hl0 hd (fun H1 locs1 hP1 hD1 hS1 => kk.1 H1 locs1 ls ⟨hP1, hD1⟩ hS1 hl)
theorem g_getL (C : Cg κ own cc nL ret rm) {idx ci k a : Nat} {fs : List Value} {v : Value} {ws : va_W} (q0 : Nat) (hd : decode cc pc = .ok (.getfield idx, 3)) (hf : FL own idx ci k) (he : ws[q0]? = some (a, .inr (ci, fs))) (hv : fs[k]? = some v) (kk : G κ nL n z (LW κ ws) (pc + 3) lv (v :: st)) : G κ nL n z (LW κ ws) pc lv (.ref a :: st) := by
  refine ⟨fun H locs ls hP hS hl => ?_, trivial⟩
  obtain ⟨Cn, T, N, h1, h2, h3, h4⟩ := hf
  have h := kk.1 H locs ls hP hS hl
  rcases h4 with h4 | ⟨host, h4⟩
  · exact va_get C.1 C.2.1 C.2.2.2.2.1 h3 C.2.2.2.1 C.2.2.2.2.2.2.1 hP.1 q0 he h1 k h2 (C.2.2.2.2.1 _ h4) (fun _ h9 => h9) hv hd h
  · exact va_getN C.1 C.2.1 C.2.2.2.2.1 h3 C.2.2.2.1 C.2.2.2.2.2.2.1 hP.1 q0 he h1 k h2 (va_Nw.use rfl (C.2.2.2.2.2.1.1 _ h4)) (fun _ h9 => h9) hv hd h
theorem g_iastL (C : Cg κ own cc nL ret rm) {a N : Nat} {f : Nat → Int32} {i v : Int32} {ws ws' : va_W} (q0 : Nat) (hd : decode cc pc = .ok (.iastore, 1)) (he : ws[q0]? = some (a, .inl (κ.2.2.2.1.1, N, .inl f))) (hi : vp_in i N) (hs : ws.set q0 (a, .inl (κ.2.2.2.1.1, N, .inl (upd f i.toNatClampNeg v))) = ws') (kk : G κ nL n z (LW κ ws') (pc + 1) lv st) : G κ nL n z (LW κ ws) pc lv (.int v :: .int i :: .ref a :: st) := by
  refine ⟨fun H locs ls hP hS hl => ?_, trivial⟩
  subst hs
  exact va_iast C.1 C.2.1 C.2.2.2.2.2.2.1 hP.1 hP.2 hS q0 0 he rfl hi hd (fun H1 locs1 hP1 hD1 hS1 => kk.1 H1 locs1 ls ⟨hP1, hD1⟩ hS1 hl)
theorem g_alen (C : Cg κ own cc nL ret rm) {a N : Nat} {f : Nat → Int32} {v : Int32} {ws : va_W} (q0 : Nat) (hd : decode cc pc = .ok (.arraylength, 1)) (he : ws[q0]? = some (a, .inl (κ.2.2.2.1.1, N, .inl f))) (hv : Int32.ofNat N = v) (kk : G κ nL n z (LW κ ws) (pc + 1) lv (.int v :: st)) : G κ nL n z (LW κ ws) pc lv (.ref a :: st) := by
  refine ⟨fun H locs ls hP hS hl => ?_, trivial⟩
  exact va_alen C.1 C.2.1 C.2.2.2.2.2.2.1 hP.1 q0 0 he rfl hv hd (kk.1 H locs ls hP hS hl)
theorem g_aast (C : Cg κ own cc nL ret rm) {a b N : Nat} {f : Nat → Option Nat} {vs : List Value} {i : Int32} {ws ws' : va_W} (q0 qk : Nat) (hd : decode cc pc = .ok (.aastore, 1)) (he : ws[q0]? = some (a, .inl (κ.2.2.2.1.2.2, N, .inr (.inr (.inr (.inr f)))))) (hv : ws[qk]? = some (b, .inr (3, vs))) (hi : vp_in i N) (hs : ws.set q0 (a, .inl (κ.2.2.2.1.2.2, N, .inr (.inr (.inr (.inr (va_up f i.toNatClampNeg (some b))))))) = ws') (kk : G κ nL n z (LW κ ws') (pc + 1) lv st) : G κ nL n z (LW κ ws) pc lv (.ref b :: .int i :: .ref a :: st) := by
  refine ⟨fun H locs ls hP hS hl => ?_, trivial⟩
  subst hs
  exact va_astq (r := (RX3, TX3, 7)) C.1 C.2.1 C.2.2.2.2.2.2.1 hP.1 hP.2 hS q0 2 qk 3 he rfl hv rfl hi hd (fun H1 locs1 hP1 hD1 hS1 => kk.1 H1 locs1 ls ⟨hP1, hD1⟩ hS1 hl)
/-- a call whose world is one cell: the other cells stay -/
def IIw (own : String) (idx : Nat) (y : MethodName) (b : ByteArray) (mL : Nat) (n : Nat) : Prop :=
  (Cond.methodLink own idx y ∈ tb ∨ ∃ host : String, Cond.methodLinkNest own idx y host ∈ nw) ∧ Cond.instanceMethod y ∈ tb ∧ Cond.initialized y.cls ∈ tb ∧ Cond.code y b mL none ∈ tb ∧ y.name = "<init>" ∧
  (y.cls ≠ "java/lang/invoke/MethodHandle" ∧ y.cls ≠ "java/lang/invoke/VarHandle" ∧ (parseMethodDescriptor y.desc).map (fun d => d.parameters.length) = some n)
def RmI (rm' rm : Room) (mL n z : Nat) : Prop := rm'.frames + 1 ≤ rm.frames ∧ 8 + (mL + 11) + rm'.locals ≤ rm.locals ∧ n + rm'.cells ≤ rm.cells ∧ z + rm'.slots ≤ rm.slots
theorem g_runI (C : Cg κ own cc nL ret rm) {y : MethodName} {b : ByteArray} {mL : Nat} {rm' : Room} {a : Nat} {As st0 : List Value} {wp : CS → Nat × va_E} {B : va_G → CS → (Nat → Prop) → Heap → Prop} (hM : CtI y b mL rm' (.ref a :: As) wp B) {idx n0 : Nat} (hd : decode cc pc = .ok (.invokespecial idx, 3)) (hw : IIw own idx y b mL n0) (hR : RmI rm' rm mL n z) (hn : As.length = n0) (h8 : (st.map fun v => v.category).sum ≤ 8) (hst : st0 = As.reverse ++ .ref a :: st)
    {H : Heap} {locs : List Loc} {ls : Array Slot} (hat : va_at κ.2.2.1 classes (wp κ.2.2.2.1) H) (hAw : ∀ q, va_A [wp κ.2.2.2.1] H.size q → κ.2.2.2.2.1 q) (hS : va_S κ.2.2.2.2.1 κ.1.2.2.2.2.heap H locs) (hl : lv_has ls nL lv) :
    va_Run κ.1.1 κ.1.2.1 κ.1.2.2.1 κ.1.2.2.2.1 κ.1.2.2.2.2 κ.2.1.1 κ.2.1.2.1 κ.2.1.2.2.1 κ.2.1.2.2.2.1 κ.2.1.2.2.2.2 H locs n z rm'.cells rm'.slots (F0 κ.2.1.1 pc ls st0) st (QcI (va_A [wp κ.2.2.2.1] H.size) (B κ.2.2.1 κ.2.2.2.1 (va_A [wp κ.2.2.2.1] H.size)) (Value.ref a :: As).toArray) (va_A [wp κ.2.2.2.1] H.size) := by
  subst hst
  obtain ⟨c1, c2, c3, c4, c5, c6, c7, c8, c9, c10, c11⟩ := id C
  obtain ⟨w1, w2, w3, w4, w5, w6⟩ := hw
  obtain ⟨r1, r2, r3, r4⟩ := hR
  have hMet := hM κ.1.2.1 κ.2.2.1 κ.2.2.2.1 H.size
  have hpre : PreS κ.1.2.2.2.2 H (PcI κ.2.2.1 κ.2.2.2.1 (.ref a :: As) [wp κ.2.2.2.1] H.size) (.ref a :: As) := by
    refine ⟨PcI_blind, fun U hU hW => ⟨rfl, by rw [hU], va_K.moved hW.alike c7, ⟨NWX.warm hW c6.1, SX.narrow hAw (SX.warm hW (fun q a b => by rw [hU]; exact hS.2.1 q a b) c6.2.1), va_AO.moved hW.alike c6.2.2⟩, by rw [hU]; exact P_one hat⟩⟩
  rcases w1 with w1 | ⟨host, w1⟩
  · refine va_runI (bytes := b) (maxL := mL) (n := n0) (b := a) (As := As) ⟨c1, c2, c3, c4, c5⟩ hMet ?_ hpre rfl hn hl.1 rfl (lv_room h8) hd ⟨by rw [c11]; exact r3, by rw [c11]; exact r4⟩
    exact cwI n0 c5 (good_tb (fun w h => h) w4) rfl rfl rfl (c5 _ w3) (c5 _ w1) (c5 _ w2) w5 w6 ⟨by rw [c11]; exact r1, by rw [c11]; exact r2⟩
  · refine va_runIN (host := host) (bytes := b) (maxL := mL) (n := n0) (b := a) (As := As) ⟨c1, c2, c3, c4, c5⟩ hMet ?_ hpre rfl hn hl.1 rfl (lv_room h8) hd ⟨by rw [c11]; exact r3, by rw [c11]; exact r4⟩
    exact ⟨va_cnB n0 c5 (good_tb (fun w h => h) w4) rfl rfl rfl (c6.1 _ w1) (c5 _ w3) w6 ⟨by rw [c11]; exact r1, by rw [c11]; exact r2⟩, w5, c5 _ w2⟩
/-- behind a call -/
theorem w_ranI {p : Program} {l : Launch} {e : Env} {R : Room} {s : State} {m : MethodId} {args : Array Value} {below : List Frame} {meth : Method} {c : Code} {H : Heap} {locs : List Loc} {cells slots mc ms : Nat} {Q : State → Prop} {ls : Array Slot} {st0 rest : List Value} {pc : Nat} {A0 A1 : Nat → Prop} {B : Heap → Prop} {aa : Array Value}
    (hr : va_Run p l e R s m args below meth c H locs cells slots mc ms (F0 m pc ls st0) rest (QcI A1 B aa) A1) (hS : va_S A0 s.heap H locs) (hA : ∀ q, A1 q → A0 q)
    (kk : ∀ (H1 : Heap) (locs1 : List Loc), B H1 → H.size ≤ H1.size → (∀ q : Nat, q < H.size → ¬ A1 q → H1[q]? = H[q]?) → va_S A0 s.heap H1 locs1 → W p l e R s m args below meth c H1 locs1 (cells + mc) (slots + ms) Q (F0 m (pc + 3) ls rest)) : W p l e R s m args below meth c H locs cells slots Q (F0 m pc ls st0) := by
  intro T hT X
  obtain ⟨v, st₀, t, T', L, h0, X', hL, e1, e2, ⟨⟨hv, hb⟩, hz, hk⟩, st⟩ := hr T hT X
  cases hv
  rw [h0] at hz hk
  obtain ⟨t2, a1, b1⟩ := kk T'.heap (locs ++ L) (by rw [e1]; exact hb) (by rw [e1]; exact hz) (fun q h1 h2 => by rw [e1]; exact hk q h1 h2)
    ⟨Nat.le_trans hS.1 (by rw [e1]; exact hz), fun q h1 h2 => by rw [e1, hk q (Nat.lt_of_lt_of_le h1 hS.1) (fun z => h2 (hA q z))]; exact hS.2.1 q h1 h2, fun q hq => by
      rcases List.mem_append.mp hq with h | h
      · exact hS.2.2 q h
      · exact hA _ (hL q h)⟩ T' rfl X'
  exact ⟨t2, st t2 a1, b1⟩
/-- the world that a list-like contract leaves -/
abbrev LB {S : Type} (bl : CS → S → va_W) : va_G → CS → (Nat → Prop) → Heap → Prop := fun D cs A H => ∃ u : S, va_P D classes (bl cs u) H ∧ va_D A (bl cs u)
theorem g_initL (C : Cg κ own cc nL ret rm) {y : MethodName} {b : ByteArray} {mL : Nat} {rm' : Room} {a : Nat} {As st0 : List Value} {wp : CS → Nat × va_E} {S : Type} {bl : CS → S → va_W} (hM : CtI y b mL rm' (.ref a :: As) wp (LB bl)) {idx n0 : Nat} (hd : decode cc pc = .ok (.invokespecial idx, 3)) (hw : IIw own idx y b mL n0) (hR : RmI rm' rm mL n z) (hn : As.length = n0) (h8 : (st.map fun v => v.category).sum ≤ 8) (hst : st0 = As.reverse ++ .ref a :: st)
    {ws wr : va_W} (hws : ws = wr ++ [wp κ.2.2.2.1]) (kk : ∀ u : S, G κ nL (n + rm'.cells) (z + rm'.slots) (LW κ (wr ++ bl κ.2.2.2.1 u)) (pc + 3) lv st) : G κ nL n z (LW κ ws) pc lv st0 := by
  refine ⟨fun H locs ls hP hS hl => ?_, trivial⟩
  subst hws
  have hlast : (wr ++ [wp κ.2.2.2.1])[wr.length]? = some (wp κ.2.2.2.1) := by simp
  have hAw : ∀ q, va_A [wp κ.2.2.2.1] H.size q → κ.2.2.2.2.1 q := va_free (ws := wr ++ [wp κ.2.2.2.1]) (wc := [wp κ.2.2.2.1]) hP.2 hS C.2.2.2.2.2.2.2.1 [wr.length] (by simp)
  refine w_ranI (g_runI C hM hd hw hR hn h8 hst (hP.1 _ _ hlast) hAw hS hl) hS hAw (fun H1 locs1 hB hz hk hS1 => ?_)
  obtain ⟨u, hP1, hD1⟩ := hB
  have hnd : va_nd (List.range wr.length) = true := va_nd_range wr.length
  have hR2 : (List.range wr.length).map (fun i => (wr ++ [wp κ.2.2.2.1])[i]?) = wr.map some := by
    apply List.ext_getElem?
    intro i
    by_cases hi : i < wr.length
    · simp [hi]
      rw [List.getElem?_append_left hi, List.getElem?_eq_getElem hi]
    · simp [hi]
  have := va_join (wr := wr) (w1 := bl κ.2.2.2.1 u) hP.1 hP.2 [wr.length] (List.range wr.length) (by simp) hR2 hnd (fun i hi hc => by simp at hi hc; omega) hk hAw hP1 hD1
  exact (kk u).1 H1 locs1 ls this hS1 hl
end GR
