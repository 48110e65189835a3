/-! ===== contracts, calls ===== -/
def PcX (D : va_G) (ad : AD) (cs : CS) (dom : Nat → Bool) (as : List PV) (M : Mem) : Array Value → State → Prop :=
  va_Pc (as.map (emb ad)) (fun U => va_K D classes (tysX cs) U ∧ (NWX U ∧ SX (frA ad dom) U) ∧ HI D ad cs dom M U.heap)
/-- a method's contract: from every memory where 'sp arguments memory K' holds it returns, and K holds of its answer and memory then -/
def Ct {α : Type} (y : MethodName) (b : ByteArray) (mL : Nat) (rt : Option FieldType) (rm : Room) (dom : Nat → Bool) (arg : α → List PV) (sp : α → Mem → Kont → Prop) : Prop :=
  ∀ (l : Launch) (D : va_G) (ad : AD) (cs : CS) (a : α) (M : Mem) (K : Kont), Inj ad dom → okM M → okS dom (arg a) → sp a M K →
    Met l y (Cond.code y b mL rt :: tb) rm (PcX D ad cs dom (arg a) M) (QcX D ad cs dom K) 0 0 (frA ad dom)
theorem PcX_blind {D : va_G} {ad : AD} {cs : CS} {dom : Nat → Bool} {as : List PV} {M : Mem} : FrameBlind (PcX D ad cs dom as M) := by
  intro a U g mk h
  obtain ⟨e, h1, h2, h3⟩ := h
  exact ⟨e, va_K.moved (u := U) (U := U.calling g mk a) (Vm.Alike.refl U.vm) h1, ⟨NWX.same (u := U) (U := U.calling g mk a) rfl h2.1, SX.same (u := U) (U := U.calling g mk a) rfl rfl h2.2⟩, h3⟩
def pushR : Option Int → List PV → List PV
  | some x, st => .inl x :: st
  | none, st => st
theorem lv_args_mem (ad : AD) : ∀ (as : List PV) (i k : Nat) (v : PV), as[k]? = some v → (i + k, emb ad v) ∈ lv_args i (as.map (emb ad))
  | [], i, k, v, h => by simp at h
  | a :: t, i, 0, v, h => by
    simp at h
    subst h
    exact List.mem_cons_self
  | a :: t, i, k + 1, v, h => by
    have := lv_args_mem ad t (i + 1) k v (by simpa using h)
    show (i + (k + 1), emb ad v) ∈ (i, emb ad a) :: lv_args (if (emb ad a).category = 2 then i + 2 else i + 1) (t.map (emb ad))
    rw [if_neg (by rw [emb_cat]; decide)]
    refine List.mem_cons_of_mem _ ?_
    have e : i + (k + 1) = i + 1 + k := by omega
    rw [e]
    exact this
theorem lg_sl_len (ad : AD) (as : List PV) : (lg_sl (as.map (emb ad))).length = as.length := by
  induction as with
  | nil => rfl
  | cons a t ih =>
    simp only [lg_sl, List.map_cons, List.flatMap_cons, List.length_append] at ih ⊢
    rw [ih, if_neg (by rw [emb_cat]; decide)]
    simp
    omega
def lvE (n : Nat) (as : List PV) : List (Option PV) := as.map some ++ List.replicate (n - as.length) none
theorem lvE_get {n : Nat} {as : List PV} {k : Nat} {v : PV} (h : (lvE n as)[k]? = some (some v)) : as[k]? = some v := by
  unfold lvE at h
  by_cases hk : k < as.length
  · rw [List.getElem?_append_left (by simpa using hk), List.getElem?_map] at h
    cases e : as[k]? with
    | none => rw [e] at h; cases h
    | some w => rw [e] at h; simpa using h
  · rw [List.getElem?_append_right (by simpa using Nat.le_of_not_lt hk), List.getElem?_replicate] at h
    split at h <;> simp at h
theorem okL_E {dom : Nat → Bool} {n : Nat} {as : List PV} (h : okS dom as) : okL dom (lvE n as) := by
  unfold lvE
  induction as generalizing n with
  | nil =>
    simp only [List.map_nil, List.nil_append]
    generalize n - ([] : List PV).length = j
    induction j with
    | zero => exact trivial
    | succ j ih => exact ih
  | cons a t ih =>
    have := ih (n := n - 1) h.2
    refine ⟨h.1, ?_⟩
    have e : n - (a :: t).length = n - 1 - t.length := by simp; omega
    rw [e]
    exact this
theorem ct_of {α : Type} {y : MethodName} {b : ByteArray} {mL : Nat} {rt : Option FieldType} {rm : Room} {dom : Nat → Bool} {arg : α → List PV} {sp : α → Mem → Kont → Prop} (hy : plainName y.cls = true) (hdm : Dm dom) (hlen : ∀ a, (arg a).length ≤ mL)
    (h : ∀ (κ : Kx) (a : α) (M : Mem) (K : Kont), Cx κ y.cls b mL rt rm dom → okM M → sp a M K → V κ mL M 0 (lvE mL (arg a)) [] K) : Ct y b mL rt rm dom arg sp := by
  intro l D ad cs a M K hI oM oS hsp
  refine Met.ofW (cc := b) (maxL := mL) (ret := rt) hy rfl ?_
  intro p e s m args below meth c s₁ B hml hv
  obtain ⟨rfl, hK, hN, hH⟩ := hv
  have hts : ∀ w ∈ tb, w.before ((arg a).map (emb ad)).toArray s = true := fun w hw => atoms_spec (ws := Cond.code y b mL rt :: tb) B.pre w (List.mem_cons_of_mem _ hw)
  have hown : s.vm.findClass y.cls = some m.cls := findClass_of_methodNamed B.named
  have hl := lv_entry ((arg a).map (emb ad)) (n := mL) (by rw [lg_sl_len]; exact hlen a)
  rw [lg_entry_eq]
  generalize (lg_sl ((arg a).map (emb ad)) ++ List.replicate (mL - (lg_sl ((arg a).map (emb ad))).length) Slot.unset).toArray = ls at hl ⊢
  have hl2 : lv_has ls mL (prs ad (lvE mL (arg a))) := by
    refine ⟨hl.1, hl.2.1, fun q hq => hl.2.2 q ?_⟩
    obtain ⟨v, hv, he⟩ := prs_mem.mp hq
    have := lv_args_mem ad (arg a) 0 q.1 v (lvE_get hv)
    rw [Nat.zero_add] at this
    obtain ⟨q1, q2⟩ := q
    dsimp only at he this ⊢
    rw [he]
    exact this
  exact (h ((p, l, e, (headSpec (Cond.code y b mL rt :: tb) rm).room, s), (m, ((arg a).map (emb ad)).toArray, below, meth, c), (D, ad, cs, dom)) a M K ⟨B.exec, B.bytes, hml, hown, hts, hN, hK, hI, B.notSynchronized, B.returns, rfl, rfl, hdm⟩ oM hsp).1 oM (okL_E oS) trivial s.heap [] ls hH va_S.rf hl2
/-- the words of a call of an instance method -/
def IV (own : String) (idx : Nat) (y : MethodName) (b : ByteArray) (mL : Nat) (rt : Option FieldType) (n : Nat) : Prop :=
  Cond.methodLink own idx y ∈ tb ∧ Cond.instanceMethod y ∈ tb ∧ Cond.selects y.cls y y ∈ tb ∧ Cond.initialized y.cls ∈ tb ∧ Cond.code y b mL rt ∈ tb ∧
  (y.cls ≠ "java/lang/invoke/MethodHandle" ∧ y.cls ≠ "java/lang/invoke/VarHandle" ∧ (parseMethodDescriptor y.desc).map (fun d => d.parameters.length) = some n)
def IS (own : String) (idx : Nat) (y : MethodName) (b : ByteArray) (mL : Nat) (rt : Option FieldType) (n : Nat) : Prop :=
  Cond.methodLink own idx y ∈ tb ∧ Cond.static y ∈ tb ∧ Cond.initialized y.cls ∈ tb ∧ Cond.code y b mL rt ∈ tb ∧
  (y.cls ≠ "java/lang/invoke/MethodHandle" ∧ y.cls ≠ "java/lang/invoke/VarHandle" ∧ (parseMethodDescriptor y.desc).map (fun d => d.parameters.length) = some n)
def RmOk (rm' rm : Room) (mL : Nat) : Prop := rm'.frames + 1 ≤ rm.frames ∧ 8 + (mL + 11) + rm'.locals ≤ rm.locals ∧ rm'.cells = 0 ∧ rm'.slots = 0
theorem rest_room {ad : AD} (st : List PV) (h : st.length ≤ 8) : ((st.map (emb ad)).map fun v => v.category).sum ≤ 8 := by
  have : ∀ l : List PV, ((l.map (emb ad)).map fun v => v.category).sum = l.length := by
    intro l
    induction l with
    | nil => rfl
    | cons a t ih => simp [emb_cat] at ih ⊢; omega
  rw [this]
  exact h
section VC
variable {κ : Kx} {own : String} {cc : ByteArray} {nL : Nat} {ret : Option FieldType} {rm : Room} {dom : Nat → Bool} {M : Mem} {pc : Nat} {lv : List (Option PV)} {st : List PV} {K : Kont}
theorem v_ran {H : Heap} {locs : List Loc} {ls : Array Slot} {st0 : List Value} {aa : Array Value} (oL : okL κ.2.2.2.2.2 lv) (oS : okS κ.2.2.2.2.2 st) (hS : va_S (frA κ.2.2.2.1 κ.2.2.2.2.2) κ.1.2.2.2.2.heap H locs) (hl : lv_has ls nL (prs κ.2.2.2.1 lv))
    {K1 : Kont} (kk : ∀ (x : Option Int) (M' : Mem), okM M' → (∀ z, x = some z → inR z) → K1 x M' → V κ nL M' (pc + 3) lv (pushR x st) K)
    (hr : va_Run κ.1.1 κ.1.2.1 κ.1.2.2.1 κ.1.2.2.2.1 κ.1.2.2.2.2 κ.2.1.1 κ.2.1.2.1 κ.2.1.2.2.1 κ.2.1.2.2.2.1 κ.2.1.2.2.2.2 H locs 0 0 0 0 (F0 κ.2.1.1 pc ls st0) (st.map (emb κ.2.2.2.1))
      (QcX κ.2.2.1 κ.2.2.2.1 κ.2.2.2.2.1 κ.2.2.2.2.2 K1 aa) (frA κ.2.2.2.1 κ.2.2.2.2.2)) :
    W κ.1.1 κ.1.2.1 κ.1.2.2.1 κ.1.2.2.2.1 κ.1.2.2.2.2 κ.2.1.1 κ.2.1.2.1 κ.2.1.2.2.1 κ.2.1.2.2.2.1 κ.2.1.2.2.2.2 H locs 0 0
      (MQ κ.2.1.2.2.1 (QcX κ.2.2.1 κ.2.2.2.1 κ.2.2.2.2.1 κ.2.2.2.2.2 K) κ.2.1.2.1 κ.1.2.2.2.2 0 0 (frA κ.2.2.2.1 κ.2.2.2.2.2)) (F0 κ.2.1.1 pc ls st0) := by
  intro T hT X
  obtain ⟨v, st₀, t, T', L, h0, X', hL, e1, e2, ⟨⟨r, M', hv, hin, oM', hk, hH'⟩, hz, hkp⟩, stp⟩ := hr T hT X
  rw [h0] at hz hkp
  have hS' : va_S (frA κ.2.2.2.1 κ.2.2.2.2.2) κ.1.2.2.2.2.heap T'.heap (locs ++ L) := by
    refine ⟨Nat.le_trans hS.1 (by rw [e1]; exact hz), fun q h1 h2 => ?_, fun q hq => ?_⟩
    · rw [e1, hkp q (Nat.lt_of_lt_of_le h1 hS.1) h2]
      exact hS.2.1 q h1 h2
    · rcases List.mem_append.mp hq with h | h
      · exact hS.2.2 q h
      · exact hL q h
  have oS' : okS κ.2.2.2.2.2 (pushR r st) := by
    cases r with
    | none => exact oS
    | some x => exact ⟨hin x rfl, oS⟩
  obtain ⟨t2, a1, b1⟩ := (kk r M' oM' hin hk).1 oM' oL oS' T'.heap (locs ++ L) ls (by rw [e1]; exact hH') hS' hl T' rfl X'
  refine ⟨t2, stp t2 ?_, b1⟩
  have ev : v = r.map fun x => .int (Int32.ofInt x) := by injection hv
  subst ev
  cases r with
  | none => exact a1
  | some x => exact a1
theorem v_invV {α : Type} {y : MethodName} {b : ByteArray} {mL : Nat} {rt : Option FieldType} {rm' : Room} {arg : α → List PV} {sp : α → Mem → Kont → Prop} (C : Cx κ own cc nL ret rm dom) (hM : Ct y b mL rt rm' dom arg sp) {idx n : Nat} (hd : decode cc pc = .ok (.invokevirtual idx, 3)) (hw : IV own idx y b mL rt n) (hR : RmOk rm' rm mL)
    (a : α) {r : Nat} {i : Int} {As : List PV} {ci : Nat} {T : u_T} {N : Nat} {st0 : List PV} (ha : arg a = .inr (r, i) :: As) (hn : As.length = n) (hk : kd r = ci) (hci : ci < 20) (hcl : classes[ci]? = some (y.cls, T, N)) (hst : st0 = As.reverse ++ .inr (r, i) :: st) (h8 : st.length ≤ 8)
    {K1 : Kont} (k : sp a M K1) (kk : ∀ (x : Option Int) (M' : Mem), okM M' → (∀ z, x = some z → inR z) → K1 x M' → V κ nL M' (pc + 3) lv (pushR x st) K) : V κ nL M pc lv st0 K := by
  refine ⟨?_, trivial⟩
  intro oM oL oS H locs ls hH hS hl
  subst hst
  obtain ⟨c1, c2, c3, c4, c5, c6, c7, c8, c9, c10, c11, c12, c13⟩ := id C
  have oAll : ∀ (l : List PV) (z : List PV), okS κ.2.2.2.2.2 (l ++ z) → okS κ.2.2.2.2.2 l ∧ okS κ.2.2.2.2.2 z := by
    intro l z
    induction l with
    | nil => intro h; exact ⟨trivial, h⟩
    | cons a t ih => intro h; exact ⟨⟨h.1, (ih h.2).1⟩, (ih h.2).2⟩
  have oRev : ∀ l : List PV, okS κ.2.2.2.2.2 l.reverse → okS κ.2.2.2.2.2 l := by
    have key : ∀ l : List PV, okS κ.2.2.2.2.2 l ↔ ∀ v ∈ l, okV κ.2.2.2.2.2 v := by
      intro l
      induction l with
      | nil => simp [okS]
      | cons a t ih => simp [okS, ih]
    intro l h
    rw [key] at h ⊢
    intro v hv
    exact h v (List.mem_reverse.mpr hv)
  obtain ⟨o1, o2, o3⟩ := oAll _ _ oS
  have oArg : okS κ.2.2.2.2.2 (arg a) := by rw [ha]; exact ⟨o2, oRev _ o1⟩
  have hMet := hM κ.1.2.1 κ.2.2.1 κ.2.2.2.1 κ.2.2.2.2.1 a M _ (by rw [← c12]; exact c8) oM (by rw [← c12]; exact oArg) k
  rw [← c12] at hMet
  refine v_ran (aa := (Value.ref (κ.2.2.2.1 r i) :: As.map (emb κ.2.2.2.1)).toArray) oL o3 hS hl kk ?_
  have hat := hH r i o2.1 o2.2.1 o2.2.2
  rw [ent_obj (by omega)] at hat
  obtain ⟨w1, w2, w3, w4, w5, w6⟩ := hw
  refine va_runV (bytes := b) (maxL := mL) (ret := rt) (C := y.cls) (As := As.map (emb κ.2.2.2.1)) (b := κ.2.2.2.1 r i) (rest := st.map (emb κ.2.2.2.1)) (n := n) ⟨c1, c2, c3, c4, c5⟩ hMet ?_ ⟨PcX_blind, ?_, ?_⟩ rfl (by rw [List.length_map]; exact hn) hl.1 ?_ (lv_room (rest_room st h8)) hd ⟨by omega, by omega⟩
  · rw [c11]
    refine cwV n c5 ?_ rfl hR.2.2.1 hR.2.2.2 ⟨rfl, w6⟩ ⟨hR.1, hR.2.1⟩
    intro w hw'
    rcases List.mem_append.mp hw' with h | h
    · have : w ∈ tb := by
        simp only [List.mem_cons, List.not_mem_nil, or_false] at h
        rcases h with h | h | h | h <;> subst h <;> assumption
      exact ⟨this, good_of_word (List.mem_filter.mp this).2⟩
    · exact good_tb (fun w h => h) w5 w h
  · obtain ⟨rr, h1', cell, q1, q2, q3, q4⟩ := hat
    dsimp only at h1' q1 q2 q3 q4
    rw [hk] at h1' q2
    exact ⟨cell, q1, by rw [q3]; rfl, by rw [q2]; exact (c7.1 ci _ hcl).2.1⟩
  · intro U hU hW
    refine ⟨?_, va_K.moved hW.alike c7, ⟨NWX.warm hW c6.1, SX.warm hW (fun q a b => by rw [hU]; exact hS.2.1 q a b) c6.2⟩, by rw [hU]; exact hH⟩
    rw [ha]
    rfl
  · show ((As.reverse ++ .inr (r, i) :: st).map (emb κ.2.2.2.1)) = _
    simp [emb]
theorem v_invS {α : Type} {y : MethodName} {b : ByteArray} {mL : Nat} {rt : Option FieldType} {rm' : Room} {arg : α → List PV} {sp : α → Mem → Kont → Prop} (C : Cx κ own cc nL ret rm dom) (hM : Ct y b mL rt rm' dom arg sp) {idx n : Nat} (hd : decode cc pc = .ok (.invokestatic idx, 3)) (hw : IS own idx y b mL rt n) (hR : RmOk rm' rm mL)
    (a : α) {st0 : List PV} (hn : (arg a).length = n) (hst : st0 = (arg a).reverse ++ st) (h8 : st.length ≤ 8)
    {K1 : Kont} (k : sp a M K1) (kk : ∀ (x : Option Int) (M' : Mem), okM M' → (∀ z, x = some z → inR z) → K1 x M' → V κ nL M' (pc + 3) lv (pushR x st) K) : V κ nL M pc lv st0 K := by
  refine ⟨?_, trivial⟩
  intro oM oL oS H locs ls hH hS hl
  subst hst
  obtain ⟨c1, c2, c3, c4, c5, c6, c7, c8, c9, c10, c11, c12, c13⟩ := id C
  have key : ∀ l : List PV, okS κ.2.2.2.2.2 l ↔ ∀ v ∈ l, okV κ.2.2.2.2.2 v := by
    intro l
    induction l with
    | nil => simp [okS]
    | cons a t ih => simp [okS, ih]
  have oArg : okS κ.2.2.2.2.2 (arg a) := by
    rw [key] at oS ⊢
    exact fun v hv => oS v (List.mem_append_left _ (List.mem_reverse.mpr hv))
  have o3 : okS κ.2.2.2.2.2 st := by
    rw [key] at oS ⊢
    exact fun v hv => oS v (List.mem_append_right _ hv)
  have hMet := hM κ.1.2.1 κ.2.2.1 κ.2.2.2.1 κ.2.2.2.2.1 a M _ (by rw [← c12]; exact c8) oM (by rw [← c12]; exact oArg) k
  rw [← c12] at hMet
  refine v_ran (aa := ((arg a).map (emb κ.2.2.2.1)).toArray) oL o3 hS hl kk ?_
  obtain ⟨w1, w2, w4, w5, w6⟩ := hw
  refine va_runS (bytes := b) (maxL := mL) (ret := rt) (As := (arg a).map (emb κ.2.2.2.1)) (rest := st.map (emb κ.2.2.2.1)) (n := n) ⟨c1, c2, c3, c4, c5⟩ hMet ?_ ⟨PcX_blind, ?_⟩ rfl (by rw [List.length_map]; exact hn) hl.1 ?_ (lv_room (rest_room st h8)) hd ⟨by omega, by omega⟩
  · rw [c11]
    exact ⟨callB_of n c5 (good_tb (fun w h => h) w5) rfl hR.2.2.1 hR.2.2.2 (c5 _ w4) (c5 _ w1) w6 ⟨hR.1, hR.2.1⟩, c5 _ w2⟩
  · intro U hU hW
    exact ⟨rfl, va_K.moved hW.alike c7, ⟨NWX.warm hW c6.1, SX.warm hW (fun q a b => by rw [hU]; exact hS.2.1 q a b) c6.2⟩, by rw [hU]; exact hH⟩
  · show (((arg a).reverse ++ st).map (emb κ.2.2.2.1)) = _
    simp
theorem v_nm {e : Int} (h : ∀ x : Int, x = e → V κ nL M pc lv (.inl x :: st) K) : V κ nL M pc lv (.inl e :: st) K := h e rfl
theorem v_nmM {e : Mem} (h : ∀ M' : Mem, M' = e → V κ nL M' pc lv st K) : V κ nL e pc lv st K := h e rfl
theorem v_push {x : Int} (h : V κ nL M pc lv (.inl x :: st) K) : V κ nL M pc lv (pushR (some x) st) K := h
theorem v_push0 (h : V κ nL M pc lv st K) : V κ nL M pc lv (pushR none st) K := h
/-- Math.min, Math.max -/
def IMin (own : String) (idx : Nat) : Prop := Cond.methodLink own idx Lib.Math.min.name ∈ tb ∧ Cond.static Lib.Math.min.name ∈ tb ∧ Cond.initialized "java/lang/Math" ∈ tb ∧ Cond.code Lib.Math.min.name Lib.Math.min.code 2 (some .int) ∈ tb
def IMax (own : String) (idx : Nat) : Prop := Cond.methodLink own idx Lib.Math.max.name ∈ tb ∧ Cond.static Lib.Math.max.name ∈ tb ∧ Cond.initialized "java/lang/Math" ∈ tb ∧ Cond.code Lib.Math.max.name Lib.Math.max.code 2 (some .int) ∈ tb
theorem v_min (C : Cx κ own cc nL ret rm dom) {idx : Nat} {x y : Int} (hd : decode cc pc = .ok (.invokestatic idx, 3)) (hw : IMin own idx) (h8 : st.length ≤ 8) (hR : 1 ≤ rm.frames ∧ 21 ≤ rm.locals) (k : V κ nL M (pc + 3) lv (.inl (min x y) :: st) K) : V κ nL M pc lv (.inl y :: .inl x :: st) K := by
  refine ⟨?_, trivial⟩
  intro oM oL oS H locs ls hH hS hl
  obtain ⟨hy, hx, oS⟩ := oS
  have hx : inR x := hx
  have hy : inR y := hy
  obtain ⟨c1, c2, c3, c4, c5, c6, c7, c8, c9, c10, c11, c12, c13⟩ := id C
  have hm : inR (min x y) := by omega
  have h := k.1 oM oL ⟨hm, oS⟩ H locs ls hH hS hl
  have hrr := rest_room (ad := κ.2.2.2.1) st h8
  refine va_mmin c1 c2 (by rw [c3]; exact hl.1.symm) c4 (c5 _ hw.1) (c5 _ hw.2.1) (c5 _ hw.2.2.1) (c5 _ hw.2.2.2) (by rw [c11]; exact hR.1) (by rw [c11]; have := hR.2; omega) (Nat.zero_le _) (Nat.zero_le _) hd ?_
  have e : (if Int32.ofInt y < Int32.ofInt x then Int32.ofInt y else Int32.ofInt x) = Int32.ofInt (min x y) := by
    by_cases hc : y < x
    · rw [if_pos ((oi_lt hy hx).mpr hc)]
      congr 1
      omega
    · rw [if_neg (fun z => hc ((oi_lt hy hx).mp z))]
      congr 1
      omega
  rw [e]
  exact h
theorem v_max (C : Cx κ own cc nL ret rm dom) {idx : Nat} {x y : Int} (hd : decode cc pc = .ok (.invokestatic idx, 3)) (hw : IMax own idx) (h8 : st.length ≤ 8) (hR : 1 ≤ rm.frames ∧ 21 ≤ rm.locals) (k : V κ nL M (pc + 3) lv (.inl (max x y) :: st) K) : V κ nL M pc lv (.inl y :: .inl x :: st) K := by
  refine ⟨?_, trivial⟩
  intro oM oL oS H locs ls hH hS hl
  obtain ⟨hy, hx, oS⟩ := oS
  have hx : inR x := hx
  have hy : inR y := hy
  obtain ⟨c1, c2, c3, c4, c5, c6, c7, c8, c9, c10, c11, c12, c13⟩ := id C
  have hm : inR (max x y) := by omega
  have h := k.1 oM oL ⟨hm, oS⟩ H locs ls hH hS hl
  have hrr := rest_room (ad := κ.2.2.2.1) st h8
  refine va_mmax c1 c2 (by rw [c3]; exact hl.1.symm) c4 (c5 _ hw.1) (c5 _ hw.2.1) (c5 _ hw.2.2.1) (c5 _ hw.2.2.2) (by rw [c11]; exact hR.1) (by rw [c11]; have := hR.2; omega) (Nat.zero_le _) (Nat.zero_le _) hd ?_
  have e : (if Int32.ofInt x < Int32.ofInt y then Int32.ofInt y else Int32.ofInt x) = Int32.ofInt (max x y) := by
    by_cases hc : x < y
    · rw [if_pos ((oi_lt hx hy).mpr hc)]
      congr 1
      omega
    · rw [if_neg (fun z => hc ((oi_lt hx hy).mp z))]
      congr 1
      omega
  rw [e]
  exact h
end VC
def rI (F : Int → Mem → Prop) : Kont := fun o M => match o with
  | some x => F x M
  | none => False
def rV (F : Mem → Prop) : Kont := fun o M => match o with
  | some _ => False
  | none => F M
theorem rI_out {F : Int → Mem → Prop} {o : Option Int} {M : Mem} (h : rI F o M) : ∃ x, o = some x ∧ F x M := by
  cases o with
  | none => exact h.elim
  | some x => exact ⟨x, rfl, h⟩
theorem rV_out {F : Mem → Prop} {o : Option Int} {M : Mem} (h : rV F o M) : o = none ∧ F M := by
  cases o with
  | none => exact ⟨rfl, h⟩
  | some x => exact h.elim
abbrev domC : Nat → Bool := fun r => Nat.blt r 24
abbrev domM : Nat → Bool := fun r => Nat.ble 30 r
theorem dmC : Dm domC := Or.inl rfl
theorem dmM : Dm domM := Or.inr rfl
