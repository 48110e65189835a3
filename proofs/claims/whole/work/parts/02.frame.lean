/-! ===== the tables' words that stay, and the words of nest mates ===== -/
def tb : List Cond := lw_tbl.filter goodWord
def isNest : Cond → Bool
  | .fieldLinkNest .. => true
  | .methodLinkNest .. => true
  | _ => false
def nw : List Cond := tables_1.filter isNest
theorem tb_mem {w : Cond} (h : w ∈ tables_1) (hg : goodWord w = true) : w ∈ tb := List.mem_filter.mpr ⟨List.mem_append_right _ h, hg⟩
theorem tb_sel {q : MethodName × Nat} (h : q ∈ lw_privs) (hg : goodWord (Cond.selects q.1.cls q.1 q.1) = true) : Cond.selects q.1.cls q.1 q.1 ∈ tb :=
  List.mem_filter.mpr ⟨List.mem_append_left _ (List.mem_map.mpr ⟨q, h, rfl⟩), hg⟩
theorem nw_mem {w : Cond} (h : w ∈ tables_1) (hg : isNest w = true) : w ∈ nw := List.mem_filter.mpr ⟨h, hg⟩
theorem t_in1 {w : Cond} (h : w ∈ tables_1_1) : w ∈ tables_1 := List.mem_append_left _ h
theorem t_in2 {w : Cond} (h : w ∈ tables_1_2) : w ∈ tables_1 := List.mem_append_right _ (List.mem_append_left _ h)
theorem t_in3 {w : Cond} (h : w ∈ tables_1_3) : w ∈ tables_1 := List.mem_append_right _ (List.mem_append_right _ (List.mem_append_left _ h))
theorem t_in4 {w : Cond} (h : w ∈ tables_1_4) : w ∈ tables_1 := List.mem_append_right _ (List.mem_append_right _ (List.mem_append_right _ (List.mem_append_left _ h)))
theorem t_in5 {w : Cond} (h : w ∈ tables_1_5) : w ∈ tables_1 := List.mem_append_right _ (List.mem_append_right _ (List.mem_append_right _ (List.mem_append_right _ h)))
def NWX (U : State) : Prop := ∀ w ∈ nw, va_Nw w U
theorem NWX.warm {s U : State} (hW : s.WarmedH U.vm) (h : NWX s) : NWX U := by
  intro w hw
  have hn := (List.mem_filter.mp hw).2
  have h1 := h w hw
  cases w with
  | fieldLinkNest a i b n d k => exact va_Nw.warmF hW h1
  | methodLinkNest a i x k => exact va_Nw.warmM hW h1
  | _ => exact absurd hn (by simp [isNest])
theorem NWX.same {u U : State} (h : u.vm = U.vm) (hZ : NWX u) : NWX U := by
  intro w hw
  have hn := (List.mem_filter.mp hw).2
  have h1 := hZ w hw
  cases w with
  | fieldLinkNest a i b n d k => exact va_Nw.same rfl h h1
  | methodLinkNest a i x k => exact va_Nw.same rfl h h1
  | _ => exact absurd hn (by simp [isNest])
theorem good_tb {y : MethodName} {b : ByteArray} {n : Nat} {r : Option FieldType} {big : List Cond} (hb : ∀ w ∈ tb, w ∈ big) (h : Cond.code y b n r ∈ tb) : GoodIn big (Cond.code y b n r :: tb) := by
  intro w hw
  have hw' : w ∈ tb := by
    rcases List.mem_cons.mp hw with e | h'
    · rw [e]; exact h
    · exact h'
  exact ⟨hb w hw', good_of_word (List.mem_filter.mp hw').2⟩
/-! ===== the cells: regions; a cell is a region and an index in it ===== -/
abbrev Mem : Type := Nat → Int → Int → Int
abbrev PV : Type := Int ⊕ (Nat × Int)
abbrev inR (x : Int) : Prop := -2147483648 ≤ x ∧ x ≤ 2147483647
/-- a region: its kind (a class's number; 20 ints, 21 chars, 22 pictures), its slots, how many cells -/
def rgT : List (Nat × Nat × Int) := [(7, 13, 1), (21, 200, 1), (5, 4, 1), (20, 9, 1), (20, 9, 1), (1, 9, 2), (20, 4, 2), (20, 12, 2), (20, 12, 2), (20, 12, 2), (22, 7, 2), (3, 7, 14), (20, 3, 14), (20, 3, 14), (6, 4, 2), (20, 100, 2), (20, 101, 2), (20, 101, 2), (4, 3, 3), (20, 7, 3), (20, 7, 3), (0, 2, 1), (20, 12928, 1), (2, 10, 1), (99, 0, 0), (99, 0, 0), (99, 0, 0), (99, 0, 0), (99, 0, 0), (99, 0, 0), (8, 29, 1), (20, 200, 1), (99, 0, 0), (99, 0, 0), (99, 0, 0), (20, 36, 1), (99, 0, 0), (20, 77, 1), (20, 4, 1), (99, 0, 0), (99, 0, 0), (99, 0, 0), (20, 36, 1), (99, 0, 0), (20, 77, 1), (20, 7, 1), (20, 7, 1), (20, 7, 1), (20, 7, 1), (20, 7, 1), (20, 7, 1), (20, 21, 1), (20, 100, 1), (20, 12928, 1), (20, 15, 1), (20, 22, 1), (20, 33, 1)]
def kd (r : Nat) : Nat := (rgT.getD r (99, 0, 0)).1
def sz (r : Nat) : Nat := (rgT.getD r (99, 0, 0)).2.1
def cn (r : Nat) : Int := (rgT.getD r (99, 0, 0)).2.2
/-- where a field that is a reference leads -/
def rf (r : Nat) (i : Int) (j : Nat) : Option (Nat × Int) := match r, j with
  | 0, 0 => some (1, 0) | 0, 2 => some (2, 0) | 0, 3 => some (5, 0) | 0, 4 => some (5, 1) | 0, 5 => some (14, 0) | 0, 6 => some (14, 1)
  | 0, 7 => some (18, 0) | 0, 8 => some (21, 0) | 0, 9 => some (18, 1) | 0, 12 => some (23, 0)
  | 2, 0 => some (3, 0) | 2, 1 => some (4, 0)
  | 5, 2 => some (6, i) | 5, 4 => some (7, i) | 5, 5 => some (8, i) | 5, 6 => some (9, i) | 5, 8 => some (10, i)
  | 11, 5 => some (12, i) | 11, 6 => some (13, i)
  | 14, 0 => some (5, 1) | 14, 1 => some (15, i) | 14, 2 => some (16, i) | 14, 3 => some (17, i)
  | 18, 0 => some (5, 1) | 18, 1 => some (19, i) | 18, 2 => some (20, i)
  | 21, 0 => some (5, 1) | 21, 1 => some (22, 0)
  | 23, 0 => some (5, 1) | 23, 1 => some (14, 0) | 23, 2 => some (18, 2)
  | 30, 1 => some (31, 0) | 30, 5 => some (35, 0) | 30, 7 => some (37, 0) | 30, 8 => some (38, 0) | 30, 12 => some (42, 0) | 30, 14 => some (44, 0)
  | 30, 15 => some (45, 0) | 30, 16 => some (46, 0) | 30, 17 => some (47, 0) | 30, 18 => some (48, 0) | 30, 19 => some (49, 0) | 30, 20 => some (50, 0)
  | 30, 21 => some (51, 0) | 30, 22 => some (52, 0) | 30, 23 => some (53, 0) | 30, 24 => some (54, 0) | 30, 25 => some (55, 0) | 30, 26 => some (56, 0)
  | _, _ => none
abbrev classes : List vw_C := [(RX0, TX0, 2), (RX1, TX1, 9), (RX2, TX2, 10), (RX3, TX3, 7), (RX4, TX4, 3), (RX5, TX5, 4), (RX6, TX6, 4), (RX7, TX7, 13), (RX8, TX8, 29)]
abbrev AD : Type := Nat → Int → Nat
abbrev CS : Type := ClassId × ClassId × ClassId
abbrev tysX (cs : CS) : List (ClassId × FieldType) := [(cs.1, .int), (cs.2.1, .char), (cs.2.2, .object RX3)]
def fvl (ad : AD) (r : Nat) (i : Int) (f : Int → Int) (j : Nat) : Value := match rf r i j with
  | some q => .ref (ad q.1 q.2)
  | none => .int (Int32.ofInt (f j))
def ent (ad : AD) (cs : CS) (r : Nat) (i : Int) (f : Int → Int) : va_E :=
  if kd r = 20 then .inl (cs.1, sz r, .inl (fun j => Int32.ofInt (f j)))
  else if kd r = 21 then .inl (cs.2.1, sz r, .inl (fun j => Int32.ofInt (f j)))
  else if kd r = 22 then .inl (cs.2.2, sz r, .inr (.inr (.inr (.inr (fun j => some (ad 11 (7 * i + j)))))))
  else .inr (kd r, (List.range (sz r)).map (fvl ad r i f))
def okV (dom : Nat → Bool) : PV → Prop
  | .inl x => inR x
  | .inr q => dom q.1 = true ∧ 0 ≤ q.2 ∧ q.2 < cn q.1
def okS (dom : Nat → Bool) : List PV → Prop
  | [] => True
  | v :: t => okV dom v ∧ okS dom t
def okL (dom : Nat → Bool) : List (Option PV) → Prop
  | [] => True
  | some v :: t => okV dom v ∧ okL dom t
  | none :: t => okL dom t
def okM (M : Mem) : Prop := ∀ r i j, inR (M r i j)
def up3 (M : Mem) (r : Nat) (i j v : Int) : Mem := fun r' i' j' => if r' = r ∧ i' = i ∧ j' = j then v else M r' i' j'
theorem okM_upd {M : Mem} (h : okM M) {r : Nat} {i j v : Int} (hv : inR v) : okM (up3 M r i j v) := by
  intro r' i' j'
  unfold up3
  split
  · exact hv
  · exact h r' i' j'
def HI (D : va_G) (ad : AD) (cs : CS) (dom : Nat → Bool) (M : Mem) (H : Heap) : Prop :=
  ∀ (r : Nat) (i : Int), dom r = true → 0 ≤ i → i < cn r → va_at D classes (ad r i, ent ad cs r i (M r i)) H
def Inj (ad : AD) (dom : Nat → Bool) : Prop := ∀ r i r' i', dom r = true → 0 ≤ i → i < cn r → dom r' = true → 0 ≤ i' → i' < cn r' → ad r i = ad r' i' → r = r' ∧ i = i'
def frA (ad : AD) (dom : Nat → Bool) : Nat → Prop := fun a => ∃ r i, dom r = true ∧ 0 ≤ i ∧ i < cn r ∧ a = ad r i
def emb (ad : AD) : PV → Value
  | .inl x => .int (Int32.ofInt x)
  | .inr q => .ref (ad q.1 q.2)
theorem emb_cat (ad : AD) (v : PV) : (emb ad v).category = 1 := by cases v <;> rfl
/-! ===== numbers ===== -/
theorem oi_toInt {x : Int} (h : inR x) : (Int32.ofInt x).toInt = x := Int32.toInt_ofInt_of_le (by have := h.1; omega) (by have := h.2; omega)
theorem oi_le {x y : Int} (hx : inR x) (hy : inR y) : Int32.ofInt x ≤ Int32.ofInt y ↔ x ≤ y := by rw [Int32.le_iff_toInt_le, oi_toInt hx, oi_toInt hy]
theorem oi_lt {x y : Int} (hx : inR x) (hy : inR y) : Int32.ofInt x < Int32.ofInt y ↔ x < y := by rw [Int32.lt_iff_toInt_lt, oi_toInt hx, oi_toInt hy]
theorem oi_eq {x y : Int} (hx : inR x) (hy : inR y) : Int32.ofInt x = Int32.ofInt y ↔ x = y := by rw [← Int32.toInt_inj, oi_toInt hx, oi_toInt hy]
theorem oi_0 : Int32.ofInt 0 = 0 := rfl
theorem toInt_inR (x : Int32) : inR x.toInt := by
  have h1 := Int32.le_toInt x
  have h2 := Int32.toInt_lt x
  constructor <;> omega
theorem oi_in {x : Int} {n : Nat} (hx : inR x) (h0 : 0 ≤ x) (hn : x < n) : vp_in (Int32.ofInt x) n := by
  rw [vp_in_iff, oi_toInt hx]
  exact ⟨h0, hn⟩
theorem oi_clamp {x : Int} (hx : inR x) : (Int32.ofInt x).toNatClampNeg = x.toNat := by
  show (Int32.ofInt x).toInt.toNat = _
  rw [oi_toInt hx]
theorem oi_nat {x : Int} (h0 : 0 ≤ x) : ((x.toNat : Nat) : Int) = x := by omega
/-! ===== the texts that the class reads: 0 the first film, 1 the letters of sounds ===== -/
def tx0 : String := "f60;s0,6;s14,20;g20,28;s33,40;n44,50;p8,4,4,6,9,3,5;p18,6,8,7,12,4,7;p30,9,5,8,20,5,12,2,6;p42,3,9,5,8;p55,9,2,4,6,2,3;c1,2;b1;"
def sLen : List Nat := [127, 3]
def sByt : List (List Int32) := [[102, 54, 48, 59, 115, 48, 44, 54, 59, 115, 49, 52, 44, 50, 48, 59, 103, 50, 48, 44, 50, 56, 59, 115, 51, 51, 44, 52, 48, 59, 110, 52, 52, 44, 53, 48, 59, 112, 56, 44, 52, 44, 52, 44, 54, 44, 57, 44, 51, 44, 53, 59, 112, 49, 56, 44, 54, 44, 56, 44, 55, 44, 49, 50, 44, 52, 44, 55, 59, 112, 51, 48, 44, 57, 44, 53, 44, 56, 44, 50, 48, 44, 53, 44, 49, 50, 44, 50, 44, 54, 59, 112, 52, 50, 44, 51, 44, 57, 44, 53, 44, 56, 59, 112, 53, 53, 44, 57, 44, 50, 44, 52, 44, 54, 44, 50, 44, 51, 59, 99, 49, 44, 50, 59, 98, 49, 59], [115, 103, 110]]
def SY (adK adV : Nat → Nat) (A : Nat → Prop) (U : State) : Prop := vk_S 2 sLen sByt adK adV A U U.heap ∧ va_Z "java/lang/String" "COMPACT_STRINGS" "Z" (.int 1) A U U.heap ∧ va_Zq "jdk/internal/util/Preconditions" "SIOOBE_FORMATTER" "Ljava/util/function/BiFunction;" A U U.heap ∧ vk_R "GapTellings" 68 tx0 (adK 0) U ∧ vk_R "GapTellings$TextReader" 49 "sgn" (adK 1) U
def SX (A : Nat → Prop) (U : State) : Prop := ∃ adK adV : Nat → Nat, SY adK adV A U
theorem SY.warm {adK adV : Nat → Nat} {A : Nat → Prop} {s U : State} (hW : s.WarmedH U.vm) (hq : ∀ q : Nat, q < s.heap.size → ¬ A q → U.heap[q]? = s.heap[q]?) (h : SY adK adV A s) : SY adK adV A U := by
  obtain ⟨h1, h2, h3, h4, h5⟩ := h
  exact ⟨(vk_S.moved hW.alike h1).kept hq, (va_Z.moved hW.alike h2).kept hq, (va_Zq.moved hW.alike h3).kept hq, h4.warm hW, h5.warm hW⟩
theorem SX.warm {A : Nat → Prop} {s U : State} (hW : s.WarmedH U.vm) (hq : ∀ q : Nat, q < s.heap.size → ¬ A q → U.heap[q]? = s.heap[q]?) (h : SX A s) : SX A U := by
  obtain ⟨a, b, h⟩ := h
  exact ⟨a, b, h.warm hW hq⟩
theorem SY.same {adK adV : Nat → Nat} {A : Nat → Prop} {u U : State} (hv : u.vm = U.vm) (hh : u.heap = U.heap) (h : SY adK adV A u) : SY adK adV A U := by
  have al : u.vm.Alike U.vm := by rw [hv]; exact Vm.Alike.refl _
  obtain ⟨h1, h2, h3, h4, h5⟩ := h
  refine ⟨?_, ?_, ?_, h4.same hv.symm, h5.same hv.symm⟩
  · rw [← hh]; exact vk_S.moved al h1
  · rw [← hh]; exact va_Z.moved al h2
  · rw [← hh]; exact va_Zq.moved al h3
theorem SX.same {A : Nat → Prop} {u U : State} (hv : u.vm = U.vm) (hh : u.heap = U.heap) (h : SX A u) : SX A U := by
  obtain ⟨a, b, h⟩ := h
  exact ⟨a, b, h.same hv hh⟩
theorem SX.narrow {A B : Nat → Prop} {U : State} (hAB : ∀ q, B q → A q) (h : SX A U) : SX B U := by
  obtain ⟨a, b, h1, h2, h3, h4, h5⟩ := h
  exact ⟨a, b, h1.narrow hAB, h2.narrow hAB, h3.narrow hAB, h4, h5⟩
