/-! ===== locals ===== -/
def prs (ad : AD) (lv : List (Option PV)) : List (Nat × Value) := (List.range lv.length).filterMap (fun k => match lv[k]? with
  | some (some v) => some (k, emb ad v)
  | _ => none)
theorem prs_mem {ad : AD} {lv : List (Option PV)} {q : Nat × Value} : q ∈ prs ad lv ↔ ∃ v, lv[q.1]? = some (some v) ∧ q.2 = emb ad v := by
  unfold prs
  rw [List.mem_filterMap]
  constructor
  · rintro ⟨k, hk, h⟩
    split at h
    · rename_i v hv
      cases h
      exact ⟨v, hv, rfl⟩
    · cases h
  · rintro ⟨v, hv, h⟩
    refine ⟨q.1, List.mem_range.mpr ?_, ?_⟩
    · exact (List.getElem?_eq_some_iff.mp hv).1
    · rw [hv]
      obtain ⟨a, b⟩ := q
      subst h
      rfl
theorem prs_at {ad : AD} {ls : Array Slot} {nL : Nat} {lv : List (Option PV)} (h : lv_has ls nL (prs ad lv)) {k : Nat} {v : PV} (hk : lv[k]? = some (some v)) : ls[k]? = some (.val (emb ad v)) :=
  h.2.2 (k, emb ad v) (prs_mem.mpr ⟨v, hk, rfl⟩)
theorem prs_set {ad : AD} {ls : Array Slot} {nL : Nat} {lv : List (Option PV)} {i : Nat} {v : PV} (hi : i < lv.length) (h : lv_has ls nL ((i, emb ad v) :: (prs ad lv).filter (fun q => !(q.1 == i) && !(q.1 + 1 == i && q.2.category == 2)))) : lv_has ls nL (prs ad (lv.set i (some v))) := by
  refine ⟨h.1, h.2.1, ?_⟩
  intro q hq
  obtain ⟨w, hw, he⟩ := prs_mem.mp hq
  obtain ⟨a, b⟩ := q
  dsimp only at hw he ⊢
  subst he
  by_cases hai : a = i
  · subst hai
    rw [List.getElem?_set_self hi] at hw
    cases hw
    exact h.2.2 (a, emb ad v) List.mem_cons_self
  · rw [List.getElem?_set_ne (Ne.symm hai)] at hw
    refine h.2.2 (a, emb ad w) (List.mem_cons_of_mem _ (List.mem_filter.mpr ⟨prs_mem.mpr ⟨w, hw, rfl⟩, ?_⟩))
    simp [hai, emb_cat]
theorem prs_sub {ad : AD} {ls : Array Slot} {nL : Nat} {lv lv' : List (Option PV)} (hs : ∀ (k : Nat) (v : PV), lv'[k]? = some (some v) → lv[k]? = some (some v)) (h : lv_has ls nL (prs ad lv)) : lv_has ls nL (prs ad lv') := by
  refine ⟨h.1, h.2.1, fun q hq => ?_⟩
  obtain ⟨w, hw, he⟩ := prs_mem.mp hq
  exact h.2.2 q (prs_mem.mpr ⟨w, hs _ _ hw, he⟩)
theorem okL_get {dom : Nat → Bool} {lv : List (Option PV)} (h : okL dom lv) {k : Nat} {v : PV} (hk : lv[k]? = some (some v)) : okV dom v := by
  induction lv generalizing k with
  | nil => simp at hk
  | cons a t ih =>
    cases k with
    | zero =>
      simp at hk
      subst hk
      exact h.1
    | succ k =>
      have ht : okL dom t := by cases a with
        | none => exact h
        | some w => exact h.2
      exact ih ht (by simpa using hk)
theorem okL_set {dom : Nat → Bool} {lv : List (Option PV)} (h : okL dom lv) {k : Nat} {v : PV} (hv : okV dom v) : okL dom (lv.set k (some v)) := by
  induction lv generalizing k with
  | nil => exact trivial
  | cons a t ih =>
    have ht : okL dom t := by cases a with
      | none => exact h
      | some w => exact h.2
    cases k with
    | zero => exact ⟨hv, ht⟩
    | succ k =>
      cases a with
      | none => exact ih ht
      | some w => exact ⟨h.1, ih ht⟩
theorem okL_sub {dom : Nat → Bool} {lv' lv : List (Option PV)} (hs : ∀ (k : Nat) (v : PV), lv'[k]? = some (some v) → lv[k]? = some (some v)) (h : okL dom lv) : okL dom lv' := by
  have key : ∀ l : List (Option PV), (∀ (k : Nat) (v : PV), l[k]? = some (some v) → okV dom v) → okL dom l := by
    intro l
    induction l with
    | nil => intro _; exact trivial
    | cons a t ih =>
      intro hh
      have ht := ih (fun k v e => hh (k + 1) v (by simpa using e))
      cases a with
      | none => exact ht
      | some w => exact ⟨hh 0 w rfl, ht⟩
  exact key lv' (fun k v e => okL_get h (hs k v e))
/-! ===== the judgement ===== -/
abbrev Kx : Type := (Program × Launch × Env × Room × State) × (MethodId × Array Value × List Frame × Method × Code) × (va_G × AD × CS × (Nat → Bool))
abbrev Kont : Type := Option Int → Mem → Prop
def QcX (D : va_G) (ad : AD) (cs : CS) (dom : Nat → Bool) (K : Kont) : Array Value → State → Outcome → State → Prop := fun _ st o t =>
  (∃ (r : Option Int) (M' : Mem), o = .returned (r.map fun x => .int (Int32.ofInt x)) ∧ (∀ x, r = some x → inR x) ∧ okM M' ∧ K r M' ∧ HI D ad cs dom M' t.heap) ∧ va_F (frA ad dom) st t
def V (κ : Kx) (nL : Nat) (M : Mem) (pc : Nat) (lv : List (Option PV)) (st : List PV) (K : Kont) : Prop :=
  (okM M → okL κ.2.2.2.2.2 lv → okS κ.2.2.2.2.2 st → ∀ (H : Heap) (locs : List Loc) (ls : Array Slot), HI κ.2.2.1 κ.2.2.2.1 κ.2.2.2.2.1 κ.2.2.2.2.2 M H →
    va_S (frA κ.2.2.2.1 κ.2.2.2.2.2) κ.1.2.2.2.2.heap H locs → lv_has ls nL (prs κ.2.2.2.1 lv) →
    W κ.1.1 κ.1.2.1 κ.1.2.2.1 κ.1.2.2.2.1 κ.1.2.2.2.2 κ.2.1.1 κ.2.1.2.1 κ.2.1.2.2.1 κ.2.1.2.2.2.1 κ.2.1.2.2.2.2 H locs 0 0
      (MQ κ.2.1.2.2.1 (QcX κ.2.2.1 κ.2.2.2.1 κ.2.2.2.2.1 κ.2.2.2.2.2 K) κ.2.1.2.1 κ.1.2.2.2.2 0 0 (frA κ.2.2.2.1 κ.2.2.2.2.2)) (F0 κ.2.1.1 pc ls (st.map (emb κ.2.2.2.1)))) ∧ True
def Dm (dom : Nat → Bool) : Prop := dom = (fun r => Nat.blt r 24) ∨ dom = (fun r => Nat.ble 30 r)
def Cx (κ : Kx) (own : String) (cc : ByteArray) (nL : Nat) (ret : Option FieldType) (rm : Room) (dom : Nat → Bool) : Prop :=
  κ.1.1.tables.exec = Jvm.exec ∧ κ.2.1.2.2.2.2.code = cc ∧ κ.2.1.2.2.2.2.maxLocals = nL ∧ κ.1.2.2.2.2.vm.findClass own = some κ.2.1.1.cls ∧ (∀ w ∈ tb, w.before κ.2.1.2.1 κ.1.2.2.2.2 = true) ∧ (NWX κ.1.2.2.2.2 ∧ SX (frA κ.2.2.2.1 κ.2.2.2.2.2) κ.1.2.2.2.2) ∧
  va_K κ.2.2.1 classes (tysX κ.2.2.2.2.1) κ.1.2.2.2.2 ∧ Inj κ.2.2.2.1 κ.2.2.2.2.2 ∧ κ.2.1.2.2.2.1.locks = false ∧ κ.2.1.2.2.2.1.sig.returnType = ret ∧ κ.1.2.2.2.1 = rm ∧ κ.2.2.2.2.2 = dom ∧ Dm dom
section VR
variable {κ : Kx} {own : String} {cc : ByteArray} {nL : Nat} {ret : Option FieldType} {rm : Room} {dom : Nat → Bool} {M : Mem} {pc : Nat} {lv : List (Option PV)} {st : List PV} {K : Kont}
def leL : List (Option PV) → List (Option PV) → Prop
  | [], _ => True
  | none :: t, _ :: u => leL t u
  | some v :: t, some w :: u => v = w ∧ leL t u
  | _, _ => False
theorem leL_get : ∀ (a b : List (Option PV)), leL a b → ∀ (k : Nat) (v : PV), a[k]? = some (some v) → b[k]? = some (some v)
  | [], _, _, k, v, h => by simp at h
  | none :: t, [], h, k, v, e => absurd h (by simp [leL])
  | none :: t, b :: u, h, 0, v, e => by simp at e
  | none :: t, b :: u, h, k + 1, v, e => by
    have := leL_get t u h k v (by simpa using e)
    simpa using this
  | some w :: t, [], h, k, v, e => absurd h (by simp [leL])
  | some w :: t, none :: u, h, k, v, e => absurd h (by simp [leL])
  | some w :: t, some x :: u, h, 0, v, e => by
    have h1 : w = x := h.1
    subst h1
    simpa using e
  | some w :: t, some x :: u, h, k + 1, v, e => by
    have := leL_get t u h.2 k v (by simpa using e)
    simpa using this
theorem v_weak (lv' : List (Option PV)) (hs : leL lv' lv) (k : V κ nL M pc lv' st K) : V κ nL M pc lv st K := by
  refine ⟨?_, trivial⟩
  intro oM oL oS H locs ls hH hS hl
  exact k.1 oM (okL_sub (leL_get lv' lv hs) oL) oS H locs ls hH hS (prs_sub (leL_get lv' lv hs) hl)
theorem v_okM (k : okM M → V κ nL M pc lv st K) : V κ nL M pc lv st K := ⟨fun oM => (k oM).1 oM, trivial⟩
theorem v_iconst (C : Cx κ own cc nL ret rm dom) {n : Int} (hd : decode cc pc = .ok (.iconst n, 1)) (ho : inR n) (k : V κ nL M (pc + 1) lv (.inl n :: st) K) : V κ nL M pc lv st K := by
  refine ⟨?_, trivial⟩
  intro oM oL oS H locs ls hH hS hl
  exact lv_iconst C.1 C.2.1 hd rfl (k.1 oM oL ⟨ho, oS⟩ H locs ls hH hS hl)
theorem v_bipush (C : Cx κ own cc nL ret rm dom) {n : Int} (hd : decode cc pc = .ok (.bipush n, 2)) (hv : (Int8.ofInt n).toInt32 = Int32.ofInt n) (ho : inR n) (k : V κ nL M (pc + 2) lv (.inl n :: st) K) : V κ nL M pc lv st K := by
  refine ⟨?_, trivial⟩
  intro oM oL oS H locs ls hH hS hl
  exact lv_bipush C.1 C.2.1 hd hv (k.1 oM oL ⟨ho, oS⟩ H locs ls hH hS hl)
theorem v_sipush (C : Cx κ own cc nL ret rm dom) {n : Int} (hd : decode cc pc = .ok (.sipush n, 3)) (hv : (Int16.ofInt n).toInt32 = Int32.ofInt n) (ho : inR n) (k : V κ nL M (pc + 3) lv (.inl n :: st) K) : V κ nL M pc lv st K := by
  refine ⟨?_, trivial⟩
  intro oM oL oS H locs ls hH hS hl
  exact lv_sipush C.1 C.2.1 hd hv (k.1 oM oL ⟨ho, oS⟩ H locs ls hH hS hl)
theorem v_ldc (C : Cx κ own cc nL ret rm dom) {idx : Nat} {n : Int} (hd : decode cc pc = .ok (.ldc idx, 2)) (hc : Cond.constant own idx (Int32.ofInt n) ∈ tb) (ho : inR n) (k : V κ nL M (pc + 2) lv (.inl n :: st) K) : V κ nL M pc lv st K := by
  refine ⟨?_, trivial⟩
  intro oM oL oS H locs ls hH hS hl
  exact lv_ldc C.1 C.2.1 C.2.2.2.1 (C.2.2.2.2.1 _ hc) hd (k.1 oM oL ⟨ho, oS⟩ H locs ls hH hS hl)
theorem v_iload_n (C : Cx κ own cc nL ret rm dom) {i : Fin 4} {x : Int} (hd : decode cc pc = .ok (.iload_n i, 1)) (hv : lv[i.val]? = some (some (.inl x))) (k : V κ nL M (pc + 1) lv (.inl x :: st) K) : V κ nL M pc lv st K := by
  refine ⟨?_, trivial⟩
  intro oM oL oS H locs ls hH hS hl
  exact lv_iload_n C.1 C.2.1 hd rfl (prs_at hl hv) (k.1 oM oL ⟨okL_get oL hv, oS⟩ H locs ls hH hS hl)
theorem v_iload (C : Cx κ own cc nL ret rm dom) {i : Nat} {x : Int} (hd : decode cc pc = .ok (.iload i, 2)) (hv : lv[i]? = some (some (.inl x))) (k : V κ nL M (pc + 2) lv (.inl x :: st) K) : V κ nL M pc lv st K := by
  refine ⟨?_, trivial⟩
  intro oM oL oS H locs ls hH hS hl
  exact lv_iload C.1 C.2.1 hd (prs_at hl hv) (k.1 oM oL ⟨okL_get oL hv, oS⟩ H locs ls hH hS hl)
theorem v_aload_n (C : Cx κ own cc nL ret rm dom) {i : Fin 4} {q : Nat × Int} (hd : decode cc pc = .ok (.aload_n i, 1)) (hv : lv[i.val]? = some (some (.inr q))) (k : V κ nL M (pc + 1) lv (.inr q :: st) K) : V κ nL M pc lv st K := by
  refine ⟨?_, trivial⟩
  intro oM oL oS H locs ls hH hS hl
  exact lv_aload_n C.1 C.2.1 hd rfl (prs_at hl hv) (k.1 oM oL ⟨okL_get oL hv, oS⟩ H locs ls hH hS hl)
theorem v_aload (C : Cx κ own cc nL ret rm dom) {i : Nat} {q : Nat × Int} (hd : decode cc pc = .ok (.aload i, 2)) (hv : lv[i]? = some (some (.inr q))) (k : V κ nL M (pc + 2) lv (.inr q :: st) K) : V κ nL M pc lv st K := by
  refine ⟨?_, trivial⟩
  intro oM oL oS H locs ls hH hS hl
  exact lv_aload C.1 C.2.1 hd (prs_at hl hv) (k.1 oM oL ⟨okL_get oL hv, oS⟩ H locs ls hH hS hl)
theorem v_istore_n (C : Cx κ own cc nL ret rm dom) {i : Fin 4} {x : Int} {lv' : List (Option PV)} (hd : decode cc pc = .ok (.istore_n i, 1)) (hi : i.val < nL) (hj : i.val < lv.length) (hv : lv.set i.val (some (.inl x)) = lv') (k : V κ nL M (pc + 1) lv' st K) : V κ nL M pc lv (.inl x :: st) K := by
  refine ⟨?_, trivial⟩
  intro oM oL oS H locs ls hH hS hl
  subst hv
  exact lv_istore_n C.1 C.2.1 hd rfl hl hi rfl (fun ls' hl' => k.1 oM (okL_set oL oS.1) oS.2 H locs ls' hH hS (prs_set (v := .inl x) hj hl'))
theorem v_istore (C : Cx κ own cc nL ret rm dom) {i : Nat} {x : Int} {lv' : List (Option PV)} (hd : decode cc pc = .ok (.istore i, 2)) (hi : i < nL) (hj : i < lv.length) (hv : lv.set i (some (.inl x)) = lv') (k : V κ nL M (pc + 2) lv' st K) : V κ nL M pc lv (.inl x :: st) K := by
  refine ⟨?_, trivial⟩
  intro oM oL oS H locs ls hH hS hl
  subst hv
  exact lv_istore C.1 C.2.1 hd hl hi rfl (fun ls' hl' => k.1 oM (okL_set oL oS.1) oS.2 H locs ls' hH hS (prs_set (v := .inl x) hj hl'))
theorem v_astore_n (C : Cx κ own cc nL ret rm dom) {i : Fin 4} {q : Nat × Int} {lv' : List (Option PV)} (hd : decode cc pc = .ok (.astore_n i, 1)) (hi : i.val < nL) (hj : i.val < lv.length) (hv : lv.set i.val (some (.inr q)) = lv') (k : V κ nL M (pc + 1) lv' st K) : V κ nL M pc lv (.inr q :: st) K := by
  refine ⟨?_, trivial⟩
  intro oM oL oS H locs ls hH hS hl
  subst hv
  exact lv_astore_n C.1 C.2.1 hd rfl hl hi rfl (fun ls' hl' => k.1 oM (okL_set oL oS.1) oS.2 H locs ls' hH hS (prs_set (v := .inr q) hj hl'))
theorem v_astore (C : Cx κ own cc nL ret rm dom) {i : Nat} {q : Nat × Int} {lv' : List (Option PV)} (hd : decode cc pc = .ok (.astore i, 2)) (hi : i < nL) (hj : i < lv.length) (hv : lv.set i (some (.inr q)) = lv') (k : V κ nL M (pc + 2) lv' st K) : V κ nL M pc lv (.inr q :: st) K := by
  refine ⟨?_, trivial⟩
  intro oM oL oS H locs ls hH hS hl
  subst hv
  exact lv_astore C.1 C.2.1 hd hl hi rfl (fun ls' hl' => k.1 oM (okL_set oL oS.1) oS.2 H locs ls' hH hS (prs_set (v := .inr q) hj hl'))
theorem v_iinc (C : Cx κ own cc nL ret rm dom) {i : Nat} {n x : Int} {lv' : List (Option PV)} (hd : decode cc pc = .ok (.iinc i n, 3)) (hi : i < nL) (hx : lv[i]? = some (some (.inl x))) (ho : inR (x + n)) (hv : lv.set i (some (.inl (x + n))) = lv') (k : V κ nL M (pc + 3) lv' st K) : V κ nL M pc lv st K := by
  refine ⟨?_, trivial⟩
  intro oM oL oS H locs ls hH hS hl
  subst hv
  have hm : (i, Value.int (Int32.ofInt x)) ∈ prs κ.2.2.2.1 lv := prs_mem.mpr ⟨.inl x, hx, rfl⟩
  obtain ⟨k0, hk0⟩ := List.getElem?_of_mem hm
  exact lv_iinc C.1 C.2.1 hd hl hk0 (v := Int32.ofInt (x + n)) (by rw [Int32.ofInt_add]) hi rfl (fun ls' hl' => k.1 oM (okL_set oL ho) oS H locs ls' hH hS (prs_set (v := .inl (x + n)) ((List.getElem?_eq_some_iff.mp hx).1) hl'))
theorem v_iadd (C : Cx κ own cc nL ret rm dom) {x y : Int} (hd : decode cc pc = .ok (.iadd, 1)) (ho : inR (x + y)) (k : V κ nL M (pc + 1) lv (.inl (x + y) :: st) K) : V κ nL M pc lv (.inl y :: .inl x :: st) K := by
  refine ⟨?_, trivial⟩
  intro oM oL oS H locs ls hH hS hl
  have h := k.1 oM oL ⟨ho, oS.2.2⟩ H locs ls hH hS hl
  refine lv_iadd C.1 C.2.1 hd ?_
  rw [← Int32.ofInt_add]
  exact h
theorem v_isub (C : Cx κ own cc nL ret rm dom) {x y : Int} (hd : decode cc pc = .ok (.isub, 1)) (ho : inR (x - y)) (k : V κ nL M (pc + 1) lv (.inl (x - y) :: st) K) : V κ nL M pc lv (.inl y :: .inl x :: st) K := by
  refine ⟨?_, trivial⟩
  intro oM oL oS H locs ls hH hS hl
  have h := k.1 oM oL ⟨ho, oS.2.2⟩ H locs ls hH hS hl
  refine lv_isub C.1 C.2.1 hd ?_
  rw [← Int32.ofInt_sub]
  exact h
theorem v_imul (C : Cx κ own cc nL ret rm dom) {x y : Int} (hd : decode cc pc = .ok (.imul, 1)) (ho : inR (x * y)) (k : V κ nL M (pc + 1) lv (.inl (x * y) :: st) K) : V κ nL M pc lv (.inl y :: .inl x :: st) K := by
  refine ⟨?_, trivial⟩
  intro oM oL oS H locs ls hH hS hl
  have h := k.1 oM oL ⟨ho, oS.2.2⟩ H locs ls hH hS hl
  refine lv_imul C.1 C.2.1 hd ?_
  rw [← Int32.ofInt_mul]
  exact h
theorem v_ineg (C : Cx κ own cc nL ret rm dom) {x : Int} (hd : decode cc pc = .ok (.ineg, 1)) (ho : inR (-x)) (k : V κ nL M (pc + 1) lv (.inl (-x) :: st) K) : V κ nL M pc lv (.inl x :: st) K := by
  refine ⟨?_, trivial⟩
  intro oM oL oS H locs ls hH hS hl
  have h := k.1 oM oL ⟨ho, oS.2⟩ H locs ls hH hS hl
  refine lv_ineg C.1 C.2.1 hd ?_
  rw [← Int32.ofInt_neg]
  exact h
theorem oi_div {x y : Int} (hx : inR x) (hy : inR y) (h0 : 0 ≤ x) (h1 : 0 < y) : Int32.ofInt x / Int32.ofInt y = Int32.ofInt (x / y) := by
  have hq : inR (x / y) := ⟨by have := Int.ediv_nonneg h0 (Int.le_of_lt h1); omega, by have := Int.ediv_le_self y h0; have := hx.2; omega⟩
  apply Int32.toInt_inj.mp
  rw [Int32.toInt_div_of_ne_right _ _ (fun h => ?_), oi_toInt hx, oi_toInt hy, oi_toInt hq, Int.tdiv_eq_ediv_of_nonneg h0]
  have h2 : (Int32.ofInt y).toInt = (-1 : Int32).toInt := by rw [h]
  rw [oi_toInt hy] at h2
  have : (-1 : Int32).toInt = -1 := rfl
  omega
theorem v_idiv (C : Cx κ own cc nL ret rm dom) {x y : Int} (hd : decode cc pc = .ok (.idiv, 1)) (h0 : 0 ≤ x) (h1 : 0 < y) (k : V κ nL M (pc + 1) lv (.inl (x / y) :: st) K) : V κ nL M pc lv (.inl y :: .inl x :: st) K := by
  refine ⟨?_, trivial⟩
  intro oM oL oS H locs ls hH hS hl
  obtain ⟨hy, hx, oS⟩ := oS
  have hq : inR (x / y) := ⟨by have := Int.ediv_nonneg h0 (Int.le_of_lt h1); omega, by have := Int.ediv_le_self y h0; have := hx.2; omega⟩
  have h := k.1 oM oL ⟨hq, oS⟩ H locs ls hH hS hl
  refine lv_idiv C.1 C.2.1 hd (fun h => ?_) ?_
  · have := (oi_eq (y := 0) hy (by decide)).mp h
    omega
  · rw [oi_div hx hy h0 h1]
    exact h
theorem v_irem (C : Cx κ own cc nL ret rm dom) {x y : Int} (hd : decode cc pc = .ok (.irem, 1)) (h0 : 0 ≤ x) (h1 : 0 < y) (k : V κ nL M (pc + 1) lv (.inl (x % y) :: st) K) : V κ nL M pc lv (.inl y :: .inl x :: st) K := by
  refine ⟨?_, trivial⟩
  intro oM oL oS H locs ls hH hS hl
  obtain ⟨hy, hx, oS⟩ := oS
  have hq : inR (x % y) := ⟨by have := Int.emod_nonneg x (Int.ne_of_gt h1); omega, by have := Int.emod_lt_of_pos x h1; have := hy.2; omega⟩
  have h := k.1 oM oL ⟨hq, oS⟩ H locs ls hH hS hl
  refine lv_irem C.1 C.2.1 hd (fun h => ?_) ?_
  · have := (oi_eq (y := 0) hy (by decide)).mp h
    omega
  · rw [oi_div hx hy h0 h1, ← Int32.ofInt_mul, ← Int32.ofInt_sub]
    have e : x - x / y * y = x % y := by rw [Int.mul_comm]; have := Int.mul_ediv_add_emod x y; omega
    rw [e]
    exact h
def bAnd (x y : Int) : Int := (Int32.ofInt x &&& Int32.ofInt y).toInt
def bOr (x y : Int) : Int := (Int32.ofInt x ||| Int32.ofInt y).toInt
def bXor (x y : Int) : Int := (Int32.ofInt x ^^^ Int32.ofInt y).toInt
def bShl (x y : Int) : Int := (Int32.ofInt x <<< (Int32.ofInt y &&& 31)).toInt
def bShr (x y : Int) : Int := (Int32.ofInt x >>> (Int32.ofInt y &&& 31)).toInt
theorem v_iand (C : Cx κ own cc nL ret rm dom) {x y : Int} (hd : decode cc pc = .ok (.iand, 1)) (k : V κ nL M (pc + 1) lv (.inl (bAnd x y) :: st) K) : V κ nL M pc lv (.inl y :: .inl x :: st) K := by
  refine ⟨?_, trivial⟩
  intro oM oL oS H locs ls hH hS hl
  have h := k.1 oM oL ⟨toInt_inR _, oS.2.2⟩ H locs ls hH hS hl
  refine lv_iand C.1 C.2.1 hd ?_
  rw [← Int32.ofInt_toInt (Int32.ofInt x &&& Int32.ofInt y)]
  exact h
theorem v_ior (C : Cx κ own cc nL ret rm dom) {x y : Int} (hd : decode cc pc = .ok (.ior, 1)) (k : V κ nL M (pc + 1) lv (.inl (bOr x y) :: st) K) : V κ nL M pc lv (.inl y :: .inl x :: st) K := by
  refine ⟨?_, trivial⟩
  intro oM oL oS H locs ls hH hS hl
  have h := k.1 oM oL ⟨toInt_inR _, oS.2.2⟩ H locs ls hH hS hl
  refine lv_ior C.1 C.2.1 hd ?_
  rw [← Int32.ofInt_toInt (Int32.ofInt x ||| Int32.ofInt y)]
  exact h
theorem v_ixor (C : Cx κ own cc nL ret rm dom) {x y : Int} (hd : decode cc pc = .ok (.ixor, 1)) (k : V κ nL M (pc + 1) lv (.inl (bXor x y) :: st) K) : V κ nL M pc lv (.inl y :: .inl x :: st) K := by
  refine ⟨?_, trivial⟩
  intro oM oL oS H locs ls hH hS hl
  have h := k.1 oM oL ⟨toInt_inR _, oS.2.2⟩ H locs ls hH hS hl
  refine lv_ixor C.1 C.2.1 hd ?_
  rw [← Int32.ofInt_toInt (Int32.ofInt x ^^^ Int32.ofInt y)]
  exact h
theorem v_ishl (C : Cx κ own cc nL ret rm dom) {x y : Int} (hd : decode cc pc = .ok (.ishl, 1)) (k : V κ nL M (pc + 1) lv (.inl (bShl x y) :: st) K) : V κ nL M pc lv (.inl y :: .inl x :: st) K := by
  refine ⟨?_, trivial⟩
  intro oM oL oS H locs ls hH hS hl
  have h := k.1 oM oL ⟨toInt_inR _, oS.2.2⟩ H locs ls hH hS hl
  refine lv_ishl C.1 C.2.1 hd ?_
  rw [← Int32.ofInt_toInt (Int32.ofInt x <<< (Int32.ofInt y &&& 31))]
  exact h
theorem v_ishr (C : Cx κ own cc nL ret rm dom) {x y : Int} (hd : decode cc pc = .ok (.ishr, 1)) (k : V κ nL M (pc + 1) lv (.inl (bShr x y) :: st) K) : V κ nL M pc lv (.inl y :: .inl x :: st) K := by
  refine ⟨?_, trivial⟩
  intro oM oL oS H locs ls hH hS hl
  have h := k.1 oM oL ⟨toInt_inR _, oS.2.2⟩ H locs ls hH hS hl
  refine lv_ishr C.1 C.2.1 hd ?_
  rw [← Int32.ofInt_toInt (Int32.ofInt x >>> (Int32.ofInt y &&& 31))]
  exact h
theorem v_pop (C : Cx κ own cc nL ret rm dom) {v : PV} (hd : decode cc pc = .ok (.pop, 1)) (k : V κ nL M (pc + 1) lv st K) : V κ nL M pc lv (v :: st) K := by
  refine ⟨?_, trivial⟩
  intro oM oL oS H locs ls hH hS hl
  exact lv_pop C.1 C.2.1 hd (emb_cat _ v) (k.1 oM oL oS.2 H locs ls hH hS hl)
theorem v_dup (C : Cx κ own cc nL ret rm dom) {v : PV} (hd : decode cc pc = .ok (.dup, 1)) (k : V κ nL M (pc + 1) lv (v :: v :: st) K) : V κ nL M pc lv (v :: st) K := by
  refine ⟨?_, trivial⟩
  intro oM oL oS H locs ls hH hS hl
  exact lv_dup C.1 C.2.1 hd (emb_cat _ v) (k.1 oM oL ⟨oS.1, oS⟩ H locs ls hH hS hl)
theorem v_dup2 (C : Cx κ own cc nL ret rm dom) {v w : PV} (hd : decode cc pc = .ok (.dup2, 1)) (k : V κ nL M (pc + 1) lv (v :: w :: v :: w :: st) K) : V κ nL M pc lv (v :: w :: st) K := by
  refine ⟨?_, trivial⟩
  intro oM oL oS H locs ls hH hS hl
  exact lv_dup2_11 C.1 C.2.1 hd (emb_cat _ v) (emb_cat _ w) (k.1 oM oL ⟨oS.1, oS.2.1, oS⟩ H locs ls hH hS hl)
theorem v_goto (C : Cx κ own cc nL ret rm dom) {off : Int} {tgt : Nat} (hd : decode cc pc = .ok (.goto off, 3)) (ht : (pc : Int) + off = (tgt : Int)) (k : V κ nL M tgt lv st K) : V κ nL M pc lv st K := by
  refine ⟨?_, trivial⟩
  intro oM oL oS H locs ls hH hS hl
  exact lv_goto C.1 C.2.1 hd ht (k.1 oM oL oS H locs ls hH hS hl)
end VR
