/-! ===== the Model reads: pictures ===== -/
theorem pic_film (H : Film) {n : Int} {l : List (Int × Int)} (hl : 5 ≤ l.length ∧ l.length % 2 = 1 ∧ l.length ≤ 9) :
    (∀ t a b, t ≠ 3 → (t < 8 ∨ a ≠ n) → sFC (avs (sFP H n (aN l 0) (aN l 1) (aN l 2)) n l 4 3) (n + 1) t a b = H t a b) ∧
    (sFC (avs (sFP H n (aN l 0) (aN l 1) (aN l 2)) n l 4 3) (n + 1) 8 n 0 = aN l 0 ∧ sFC (avs (sFP H n (aN l 0) (aN l 1) (aN l 2)) n l 4 3) (n + 1) 9 n 0 = aN l 1 ∧ sFC (avs (sFP H n (aN l 0) (aN l 1) (aN l 2)) n l 4 3) (n + 1) 10 n 0 = aN l 2 ∧ sFC (avs (sFP H n (aN l 0) (aN l 1) (aN l 2)) n l 4 3) (n + 1) 12 n 0 = -4) ∧
    sFC (avs (sFP H n (aN l 0) (aN l 1) (aN l 2)) n l 4 3) (n + 1) 11 n 0 = ((l.length - 3) / 2 : Nat) ∧
    ∀ v : Int, 0 ≤ v → v < (((l.length - 3) / 2 : Nat) : Int) → sFC (avs (sFP H n (aN l 0) (aN l 1) (aN l 2)) n l 4 3) (n + 1) 13 n v = aN l (3 + 2 * v.toNat) ∧ sFC (avs (sFP H n (aN l 0) (aN l 1) (aN l 2)) n l 4 3) (n + 1) 14 n v = aN l (3 + 2 * v.toNat + 1) := by
  have new : ∀ t, t ≠ 3 → t ≠ 11 → t ≠ 13 → t ≠ 14 → ∀ b, sFC (avs (sFP H n (aN l 0) (aN l 1) (aN l 2)) n l 4 3) (n + 1) t n b = sFP H n (aN l 0) (aN l 1) (aN l 2) t n b := by
    intro t h3 h11 h13 h14 b
    unfold sFC
    rw [if_neg h3, avs_spec 4 3 _ t _ b (fun z => h11 z.1) (fun z => by rcases z.1 with y | y; exact h13 y; exact h14 y)]
  have f11 : sFP H n (aN l 0) (aN l 1) (aN l 2) 11 n 0 = 0 := by unfold sFP; simp
  have av := avs_ver (p := n) (l := l) 4 3 (sFP H n (aN l 0) (aN l 1) (aN l 2)) (by omega) (by omega) (by omega) (by omega) (by rw [f11]; omega)
  rw [f11] at av
  have nf : ∀ t a b, t ≠ 3 → sFC (avs (sFP H n (aN l 0) (aN l 1) (aN l 2)) n l 4 3) (n + 1) t a b = avs (sFP H n (aN l 0) (aN l 1) (aN l 2)) n l 4 3 t a b := fun t a b h3 => by unfold sFC; rw [if_neg h3]
  refine ⟨fun t a b h3 hc => ?_, ⟨?_, ?_, ?_, ?_⟩, by rw [nf _ _ _ (by decide), av.1]; omega, fun v v0 v1 => ?_⟩
  · unfold sFC
    rw [if_neg h3, avs_spec 4 3 _ t a b (by omega) (by omega)]
    unfold sFP
    rw [if_neg (by omega), if_neg (by omega), if_neg (by omega), if_neg (by omega), if_neg (by omega)]
  · rw [new 8 (by decide) (by decide) (by decide) (by decide)]; simp [sFP]
  · rw [new 9 (by decide) (by decide) (by decide) (by decide)]; simp [sFP]
  · rw [new 10 (by decide) (by decide) (by decide) (by decide)]; simp [sFP]
  · rw [new 12 (by decide) (by decide) (by decide) (by decide)]; simp [sFP]
  · rw [nf _ _ _ (by decide), nf _ _ _ (by decide)]
    have q := av.2.2 v.toNat (by omega)
    have ev : (0 : Int) + (v.toNat : Int) = v := by omega
    rw [ev] at q
    exact q
theorem vok_of {l : List (Int × Int)} : ∀ (n i : Nat), (∀ j, i + 2 * j + 1 < l.length → 1 ≤ aN l (i + 2 * j) ∧ aN l (i + 2 * j) ≤ 30 ∧ 1 ≤ aN l (i + 2 * j + 1) ∧ aN l (i + 2 * j + 1) ≤ 99) → vok l n i = true := by
  intro n
  induction n with
  | zero => intro i _; rfl
  | succ n ih =>
    intro i h
    unfold vok
    split
    · rename_i c
      have h0 := h 0 (by omega)
      have h1 := ih (i + 2) (fun j hj => by have := h (j + 1) (by omega); rw [show i + 2 * (j + 1) = i + 2 + 2 * j by omega] at this; exact this)
      rw [h1]
      simp at h0 ⊢
      exact h0
    · rfl
/-- nothing but a picture that is read, value and ends has changed -/
def FrP (M N : Mem) (n : Int) : Prop := ∀ r i j, ¬ (r = 44 ∧ i = 0 ∧ 11 * n ≤ j ∧ j < 11 * n + 11) → ¬ (r = 30 ∧ (j = 27 ∨ j = 28)) → N r i j = M r i j
theorem FrP.rf {M : Mem} {n : Int} : FrP M M n := fun _ _ _ _ _ => rfl
theorem FrP.v {M N N' : Mem} {n : Int} (h : FrP M N n) (h2 : AgV N N') : FrP M N' n := fun r i j a b => (h2 r i j b).trans (h r i j a b)
theorem FrP.u {M N : Mem} {n : Int} (h : FrP M N n) {j : Int} (hj : 11 * n ≤ j ∧ j < 11 * n + 11) (v : Int) : FrP M (up3 N 44 0 j v) n := fun r i j' a b => by
  rw [← h r i j' a b]
  exact if_neg (fun z => a ⟨z.1, z.2.1, by omega, by omega⟩)
theorem FrP.i {M N : Mem} {n : Int} (h : FrP M N n) : AgI M N := fun r i j hn => h r i j (by omega) (by omega)
theorem FrP.g {M N : Mem} {n : Int} (h : FrP M N n) : N 30 0 13 = M 30 0 13 ∧ N 30 0 9 = M 30 0 9 := ⟨h 30 0 13 (by omega) (by omega), h 30 0 9 (by omega) (by omega)⟩
/-- numbers taken so far make a picture so far, in the memory too -/
def PcS (M N : Mem) (n : Int) (pre : List (Int × Int)) (k : Nat) : Prop := pre.length = 3 + 2 * k ∧ (aN pre 0 < M 30 0 9 ∧ aN pre 1 ≤ 20 ∧ aN pre 2 ≤ 20) ∧ (∀ j, j < k → 1 ≤ aN pre (3 + 2 * j) ∧ aN pre (3 + 2 * j) ≤ 30 ∧ 1 ≤ aN pre (3 + 2 * j + 1) ∧ aN pre (3 + 2 * j + 1) ≤ 99) ∧
  (N 44 0 (11 * n) = aN pre 0 ∧ N 44 0 (11 * n + 1) = aN pre 1 ∧ N 44 0 (11 * n + 2) = aN pre 2 ∧ N 44 0 (11 * n + 4) = -4) ∧ (∀ j : Nat, j < k → N 44 0 (11 * n + 5 + 2 * j) = aN pre (3 + 2 * j) ∧ N 44 0 (11 * n + 6 + 2 * j) = aN pre (3 + 2 * j + 1))
/-! ===== GapTellingsModel.readsPicture ===== -/
abbrev rmX8_readsPicture : Room := { frames := 4, cells := 0, slots := 0, locals := 90 }
abbrev argX8_readsPicture (a : Int) : List PV := [.inr (30, 0), .inl a]
abbrev CtX8_readsPicture (sp : Int → Mem → Kont → Prop) : Prop := Ct yX8_readsPicture cX8_readsPicture 5 (some .boolean) rmX8_readsPicture domM argX8_readsPicture (fun a => sp a)
theorem dX8_readsPicture_0 : decode cX8_readsPicture 0 = .ok (.aload_n 0, 1) := by decide +kernel
theorem dX8_readsPicture_1 : decode cX8_readsPicture 1 = .ok (.getfield 114, 3) := by decide +kernel
theorem dX8_readsPicture_4 : decode cX8_readsPicture 4 = .ok (.bipush 7, 2) := by decide +kernel
theorem dX8_readsPicture_6 : decode cX8_readsPicture 6 = .ok (.if_icmp .eq 19, 3) := by decide +kernel
theorem dX8_readsPicture_9 : decode cX8_readsPicture 9 = .ok (.aload_n 0, 1) := by decide +kernel
theorem dX8_readsPicture_10 : decode cX8_readsPicture 10 = .ok (.iload_n 1, 1) := by decide +kernel
theorem dX8_readsPicture_11 : decode cX8_readsPicture 11 = .ok (.iconst 2, 1) := by decide +kernel
theorem dX8_readsPicture_12 : decode cX8_readsPicture 12 = .ok (.iconst 0, 1) := by decide +kernel
theorem dX8_readsPicture_13 : decode cX8_readsPicture 13 = .ok (.aload_n 0, 1) := by decide +kernel
theorem dX8_readsPicture_14 : decode cX8_readsPicture 14 = .ok (.getfield 108, 3) := by decide +kernel
theorem dX8_readsPicture_17 : decode cX8_readsPicture 17 = .ok (.iconst 1, 1) := by decide +kernel
theorem dX8_readsPicture_18 : decode cX8_readsPicture 18 = .ok (.isub, 1) := by decide +kernel
theorem dX8_readsPicture_19 : decode cX8_readsPicture 19 = .ok (.invokevirtual 101, 3) := by decide +kernel
theorem dX8_readsPicture_22 : decode cX8_readsPicture 22 = .ok (.ifCond .ne 5, 3) := by decide +kernel
theorem dX8_readsPicture_25 : decode cX8_readsPicture 25 = .ok (.iconst 0, 1) := by decide +kernel
theorem dX8_readsPicture_26 : decode cX8_readsPicture 26 = .ok (.ireturn, 1) := by decide +kernel
theorem dX8_readsPicture_27 : decode cX8_readsPicture 27 = .ok (.bipush 11, 2) := by decide +kernel
theorem dX8_readsPicture_29 : decode cX8_readsPicture 29 = .ok (.aload_n 0, 1) := by decide +kernel
theorem dX8_readsPicture_30 : decode cX8_readsPicture 30 = .ok (.getfield 114, 3) := by decide +kernel
theorem dX8_readsPicture_33 : decode cX8_readsPicture 33 = .ok (.imul, 1) := by decide +kernel
theorem dX8_readsPicture_34 : decode cX8_readsPicture 34 = .ok (.istore_n 2, 1) := by decide +kernel
theorem dX8_readsPicture_35 : decode cX8_readsPicture 35 = .ok (.aload_n 0, 1) := by decide +kernel
theorem dX8_readsPicture_36 : decode cX8_readsPicture 36 = .ok (.getfield 25, 3) := by decide +kernel
theorem dX8_readsPicture_39 : decode cX8_readsPicture 39 = .ok (.iload_n 2, 1) := by decide +kernel
theorem dX8_readsPicture_40 : decode cX8_readsPicture 40 = .ok (.aload_n 0, 1) := by decide +kernel
theorem dX8_readsPicture_41 : decode cX8_readsPicture 41 = .ok (.getfield 87, 3) := by decide +kernel
theorem dX8_readsPicture_44 : decode cX8_readsPicture 44 = .ok (.iastore, 1) := by decide +kernel
theorem dX8_readsPicture_45 : decode cX8_readsPicture 45 = .ok (.aload_n 0, 1) := by decide +kernel
theorem dX8_readsPicture_46 : decode cX8_readsPicture 46 = .ok (.iconst 2, 1) := by decide +kernel
theorem dX8_readsPicture_47 : decode cX8_readsPicture 47 = .ok (.iconst 0, 1) := by decide +kernel
theorem dX8_readsPicture_48 : decode cX8_readsPicture 48 = .ok (.bipush 20, 2) := by decide +kernel
theorem dX8_readsPicture_50 : decode cX8_readsPicture 50 = .ok (.invokevirtual 111, 3) := by decide +kernel
theorem dX8_readsPicture_53 : decode cX8_readsPicture 53 = .ok (.istore_n 3, 1) := by decide +kernel
theorem dX8_readsPicture_54 : decode cX8_readsPicture 54 = .ok (.aload_n 0, 1) := by decide +kernel
theorem dX8_readsPicture_55 : decode cX8_readsPicture 55 = .ok (.getfield 25, 3) := by decide +kernel
theorem dX8_readsPicture_58 : decode cX8_readsPicture 58 = .ok (.iload_n 2, 1) := by decide +kernel
theorem dX8_readsPicture_59 : decode cX8_readsPicture 59 = .ok (.iconst 1, 1) := by decide +kernel
theorem dX8_readsPicture_60 : decode cX8_readsPicture 60 = .ok (.iadd, 1) := by decide +kernel
theorem dX8_readsPicture_61 : decode cX8_readsPicture 61 = .ok (.aload_n 0, 1) := by decide +kernel
theorem dX8_readsPicture_62 : decode cX8_readsPicture 62 = .ok (.getfield 87, 3) := by decide +kernel
theorem dX8_readsPicture_65 : decode cX8_readsPicture 65 = .ok (.iastore, 1) := by decide +kernel
theorem dX8_readsPicture_66 : decode cX8_readsPicture 66 = .ok (.iload_n 3, 1) := by decide +kernel
theorem dX8_readsPicture_67 : decode cX8_readsPicture 67 = .ok (.ifCond .eq 18, 3) := by decide +kernel
theorem dX8_readsPicture_70 : decode cX8_readsPicture 70 = .ok (.aload_n 0, 1) := by decide +kernel
theorem dX8_readsPicture_71 : decode cX8_readsPicture 71 = .ok (.iconst 2, 1) := by decide +kernel
theorem dX8_readsPicture_72 : decode cX8_readsPicture 72 = .ok (.iconst 0, 1) := by decide +kernel
theorem dX8_readsPicture_73 : decode cX8_readsPicture 73 = .ok (.bipush 20, 2) := by decide +kernel
theorem dX8_readsPicture_75 : decode cX8_readsPicture 75 = .ok (.invokevirtual 111, 3) := by decide +kernel
theorem dX8_readsPicture_78 : decode cX8_readsPicture 78 = .ok (.ifCond .eq 7, 3) := by decide +kernel
theorem dX8_readsPicture_81 : decode cX8_readsPicture 81 = .ok (.iconst 1, 1) := by decide +kernel
theorem dX8_readsPicture_82 : decode cX8_readsPicture 82 = .ok (.goto 4, 3) := by decide +kernel
theorem dX8_readsPicture_85 : decode cX8_readsPicture 85 = .ok (.iconst 0, 1) := by decide +kernel
theorem dX8_readsPicture_86 : decode cX8_readsPicture 86 = .ok (.istore_n 3, 1) := by decide +kernel
theorem dX8_readsPicture_87 : decode cX8_readsPicture 87 = .ok (.aload_n 0, 1) := by decide +kernel
theorem dX8_readsPicture_88 : decode cX8_readsPicture 88 = .ok (.getfield 25, 3) := by decide +kernel
theorem dX8_readsPicture_91 : decode cX8_readsPicture 91 = .ok (.iload_n 2, 1) := by decide +kernel
theorem dX8_readsPicture_92 : decode cX8_readsPicture 92 = .ok (.iconst 2, 1) := by decide +kernel
theorem dX8_readsPicture_93 : decode cX8_readsPicture 93 = .ok (.iadd, 1) := by decide +kernel
theorem dX8_readsPicture_94 : decode cX8_readsPicture 94 = .ok (.aload_n 0, 1) := by decide +kernel
theorem dX8_readsPicture_95 : decode cX8_readsPicture 95 = .ok (.getfield 87, 3) := by decide +kernel
theorem dX8_readsPicture_98 : decode cX8_readsPicture 98 = .ok (.iastore, 1) := by decide +kernel
theorem dX8_readsPicture_99 : decode cX8_readsPicture 99 = .ok (.aload_n 0, 1) := by decide +kernel
theorem dX8_readsPicture_100 : decode cX8_readsPicture 100 = .ok (.getfield 25, 3) := by decide +kernel
theorem dX8_readsPicture_103 : decode cX8_readsPicture 103 = .ok (.iload_n 2, 1) := by decide +kernel
theorem dX8_readsPicture_104 : decode cX8_readsPicture 104 = .ok (.iconst 4, 1) := by decide +kernel
theorem dX8_readsPicture_105 : decode cX8_readsPicture 105 = .ok (.iadd, 1) := by decide +kernel
theorem dX8_readsPicture_106 : decode cX8_readsPicture 106 = .ok (.bipush (-4), 2) := by decide +kernel
theorem dX8_readsPicture_108 : decode cX8_readsPicture 108 = .ok (.iastore, 1) := by decide +kernel
theorem dX8_readsPicture_109 : decode cX8_readsPicture 109 = .ok (.iconst 0, 1) := by decide +kernel
theorem dX8_readsPicture_110 : decode cX8_readsPicture 110 = .ok (.istore 4, 2) := by decide +kernel
theorem dX8_readsPicture_112 : decode cX8_readsPicture 112 = .ok (.iload_n 3, 1) := by decide +kernel
theorem dX8_readsPicture_113 : decode cX8_readsPicture 113 = .ok (.ifCond .eq 98, 3) := by decide +kernel
theorem dX8_readsPicture_116 : decode cX8_readsPicture 116 = .ok (.iload 4, 2) := by decide +kernel
theorem dX8_readsPicture_118 : decode cX8_readsPicture 118 = .ok (.iconst 3, 1) := by decide +kernel
theorem dX8_readsPicture_119 : decode cX8_readsPicture 119 = .ok (.if_icmp .ge 92, 3) := by decide +kernel
theorem dX8_readsPicture_122 : decode cX8_readsPicture 122 = .ok (.iload 4, 2) := by decide +kernel
theorem dX8_readsPicture_124 : decode cX8_readsPicture 124 = .ok (.ifCond .eq 16, 3) := by decide +kernel
theorem dX8_readsPicture_127 : decode cX8_readsPicture 127 = .ok (.aload_n 0, 1) := by decide +kernel
theorem dX8_readsPicture_128 : decode cX8_readsPicture 128 = .ok (.aload_n 0, 1) := by decide +kernel
theorem dX8_readsPicture_129 : decode cX8_readsPicture 129 = .ok (.getfield 94, 3) := by decide +kernel
theorem dX8_readsPicture_132 : decode cX8_readsPicture 132 = .ok (.invokevirtual 83, 3) := by decide +kernel
theorem dX8_readsPicture_135 : decode cX8_readsPicture 135 = .ok (.bipush 44, 2) := by decide +kernel
theorem dX8_readsPicture_137 : decode cX8_readsPicture 137 = .ok (.if_icmp .ne 74, 3) := by decide +kernel
theorem dX8_readsPicture_140 : decode cX8_readsPicture 140 = .ok (.aload_n 0, 1) := by decide +kernel
theorem dX8_readsPicture_141 : decode cX8_readsPicture 141 = .ok (.iconst 2, 1) := by decide +kernel
theorem dX8_readsPicture_142 : decode cX8_readsPicture 142 = .ok (.iconst 1, 1) := by decide +kernel
theorem dX8_readsPicture_143 : decode cX8_readsPicture 143 = .ok (.bipush 30, 2) := by decide +kernel
theorem dX8_readsPicture_145 : decode cX8_readsPicture 145 = .ok (.invokevirtual 111, 3) := by decide +kernel
theorem dX8_readsPicture_148 : decode cX8_readsPicture 148 = .ok (.istore_n 3, 1) := by decide +kernel
theorem dX8_readsPicture_149 : decode cX8_readsPicture 149 = .ok (.aload_n 0, 1) := by decide +kernel
theorem dX8_readsPicture_150 : decode cX8_readsPicture 150 = .ok (.getfield 25, 3) := by decide +kernel
theorem dX8_readsPicture_153 : decode cX8_readsPicture 153 = .ok (.iload_n 2, 1) := by decide +kernel
theorem dX8_readsPicture_154 : decode cX8_readsPicture 154 = .ok (.iconst 5, 1) := by decide +kernel
theorem dX8_readsPicture_155 : decode cX8_readsPicture 155 = .ok (.iadd, 1) := by decide +kernel
theorem dX8_readsPicture_156 : decode cX8_readsPicture 156 = .ok (.iconst 2, 1) := by decide +kernel
theorem dX8_readsPicture_157 : decode cX8_readsPicture 157 = .ok (.iload 4, 2) := by decide +kernel
theorem dX8_readsPicture_159 : decode cX8_readsPicture 159 = .ok (.imul, 1) := by decide +kernel
theorem dX8_readsPicture_160 : decode cX8_readsPicture 160 = .ok (.iadd, 1) := by decide +kernel
theorem dX8_readsPicture_161 : decode cX8_readsPicture 161 = .ok (.aload_n 0, 1) := by decide +kernel
theorem dX8_readsPicture_162 : decode cX8_readsPicture 162 = .ok (.getfield 87, 3) := by decide +kernel
theorem dX8_readsPicture_165 : decode cX8_readsPicture 165 = .ok (.iastore, 1) := by decide +kernel
theorem dX8_readsPicture_166 : decode cX8_readsPicture 166 = .ok (.iload_n 3, 1) := by decide +kernel
theorem dX8_readsPicture_167 : decode cX8_readsPicture 167 = .ok (.ifCond .eq 18, 3) := by decide +kernel
theorem dX8_readsPicture_170 : decode cX8_readsPicture 170 = .ok (.aload_n 0, 1) := by decide +kernel
theorem dX8_readsPicture_171 : decode cX8_readsPicture 171 = .ok (.iconst 2, 1) := by decide +kernel
theorem dX8_readsPicture_172 : decode cX8_readsPicture 172 = .ok (.iconst 1, 1) := by decide +kernel
theorem dX8_readsPicture_173 : decode cX8_readsPicture 173 = .ok (.bipush 99, 2) := by decide +kernel
theorem dX8_readsPicture_175 : decode cX8_readsPicture 175 = .ok (.invokevirtual 111, 3) := by decide +kernel
theorem dX8_readsPicture_178 : decode cX8_readsPicture 178 = .ok (.ifCond .eq 7, 3) := by decide +kernel
theorem dX8_readsPicture_181 : decode cX8_readsPicture 181 = .ok (.iconst 1, 1) := by decide +kernel
theorem dX8_readsPicture_182 : decode cX8_readsPicture 182 = .ok (.goto 4, 3) := by decide +kernel
theorem dX8_readsPicture_185 : decode cX8_readsPicture 185 = .ok (.iconst 0, 1) := by decide +kernel
theorem dX8_readsPicture_186 : decode cX8_readsPicture 186 = .ok (.istore_n 3, 1) := by decide +kernel
theorem dX8_readsPicture_187 : decode cX8_readsPicture 187 = .ok (.aload_n 0, 1) := by decide +kernel
theorem dX8_readsPicture_188 : decode cX8_readsPicture 188 = .ok (.getfield 25, 3) := by decide +kernel
theorem dX8_readsPicture_191 : decode cX8_readsPicture 191 = .ok (.iload_n 2, 1) := by decide +kernel
theorem dX8_readsPicture_192 : decode cX8_readsPicture 192 = .ok (.bipush 6, 2) := by decide +kernel
theorem dX8_readsPicture_194 : decode cX8_readsPicture 194 = .ok (.iadd, 1) := by decide +kernel
theorem dX8_readsPicture_195 : decode cX8_readsPicture 195 = .ok (.iconst 2, 1) := by decide +kernel
theorem dX8_readsPicture_196 : decode cX8_readsPicture 196 = .ok (.iload 4, 2) := by decide +kernel
theorem dX8_readsPicture_198 : decode cX8_readsPicture 198 = .ok (.imul, 1) := by decide +kernel
theorem dX8_readsPicture_199 : decode cX8_readsPicture 199 = .ok (.iadd, 1) := by decide +kernel
theorem dX8_readsPicture_200 : decode cX8_readsPicture 200 = .ok (.aload_n 0, 1) := by decide +kernel
theorem dX8_readsPicture_201 : decode cX8_readsPicture 201 = .ok (.getfield 87, 3) := by decide +kernel
theorem dX8_readsPicture_204 : decode cX8_readsPicture 204 = .ok (.iastore, 1) := by decide +kernel
theorem dX8_readsPicture_205 : decode cX8_readsPicture 205 = .ok (.iinc 4 1, 3) := by decide +kernel
theorem dX8_readsPicture_208 : decode cX8_readsPicture 208 = .ok (.goto (-96), 3) := by decide +kernel
theorem dX8_readsPicture_211 : decode cX8_readsPicture 211 = .ok (.aload_n 0, 1) := by decide +kernel
theorem dX8_readsPicture_212 : decode cX8_readsPicture 212 = .ok (.getfield 25, 3) := by decide +kernel
theorem dX8_readsPicture_215 : decode cX8_readsPicture 215 = .ok (.iload_n 2, 1) := by decide +kernel
theorem dX8_readsPicture_216 : decode cX8_readsPicture 216 = .ok (.iconst 3, 1) := by decide +kernel
theorem dX8_readsPicture_217 : decode cX8_readsPicture 217 = .ok (.iadd, 1) := by decide +kernel
theorem dX8_readsPicture_218 : decode cX8_readsPicture 218 = .ok (.iload 4, 2) := by decide +kernel
theorem dX8_readsPicture_220 : decode cX8_readsPicture 220 = .ok (.iastore, 1) := by decide +kernel
theorem dX8_readsPicture_221 : decode cX8_readsPicture 221 = .ok (.aload_n 0, 1) := by decide +kernel
theorem dX8_readsPicture_222 : decode cX8_readsPicture 222 = .ok (.dup, 1) := by decide +kernel
theorem dX8_readsPicture_223 : decode cX8_readsPicture 223 = .ok (.getfield 114, 3) := by decide +kernel
theorem dX8_readsPicture_226 : decode cX8_readsPicture 226 = .ok (.iconst 1, 1) := by decide +kernel
theorem dX8_readsPicture_227 : decode cX8_readsPicture 227 = .ok (.iadd, 1) := by decide +kernel
theorem dX8_readsPicture_228 : decode cX8_readsPicture 228 = .ok (.putfield 114, 3) := by decide +kernel
theorem dX8_readsPicture_231 : decode cX8_readsPicture 231 = .ok (.iload_n 3, 1) := by decide +kernel
theorem dX8_readsPicture_232 : decode cX8_readsPicture 232 = .ok (.ireturn, 1) := by decide +kernel
theorem plX8_114 : PL RX8 114 8 13 .int := ⟨_, _, _, rfl, by decide, uwX8, Or.inl (tb_mem (t_in4 (List.mem_of_getElem? (i := 121) (by decide +kernel))) (by decide +kernel)), rfl, by decide +kernel, tyX8, tyX8_ok, nmX8⟩
set_option maxHeartbeats 4000000 in
set_option maxRecDepth 20000 in
theorem sgX8_readsPicture_0 {κ : Kx} {K : Kont} {M : Mem} (C : Cx κ RX8 cX8_readsPicture 5 (some .boolean) rmX8_readsPicture domM) (x1 : Int)
    (h :
    (((M 30 0 13) = 7 →
      K (some 0) M) ∧
     (¬ ((M 30 0 13) = 7) →
      inR ((M 30 0 9) - 1) ∧
      spX8_number x1 2 0 ((M 30 0 9) - 1) M (rI (fun r19 M19 =>
      ((r19 ≠ 0 →
        inR (11 * (M19 30 0 13)) ∧
        ∀ y2_34 : Int, y2_34 = 11 * (M19 30 0 13) →
        (0 ≤ y2_34 ∧ y2_34 < 77) ∧
        ∀ M44 : Mem, M44 = up3 M19 44 0 y2_34 (M19 30 0 27) →
        spX8_more 2 0 20 M44 (rI (fun r50 M50 =>
        inR (y2_34 + 1) ∧
        (0 ≤ (y2_34 + 1) ∧ (y2_34 + 1) < 77) ∧
        ∀ M65 : Mem, M65 = up3 M50 44 0 (y2_34 + 1) (M50 30 0 27) →
        ((r50 = 0 →
          inR (y2_34 + 2) ∧
          (0 ≤ (y2_34 + 2) ∧ (y2_34 + 2) < 77) ∧
          ∀ M98 : Mem, M98 = up3 M65 44 0 (y2_34 + 2) (M65 30 0 27) →
          inR (y2_34 + 4) ∧
          (0 ≤ (y2_34 + 4) ∧ (y2_34 + 4) < 77) ∧
          ∀ M108 : Mem, M108 = up3 M98 44 0 (y2_34 + 4) (-4) →
          V κ 5 M108 112 [some (.inr (30, 0)), none, some (.inl y2_34), some (.inl 0), some (.inl 0)] [] K) ∧
         (¬ (r50 = 0) →
          spX8_more 2 0 20 M65 (rI (fun r75 M75 =>
          ((r75 = 0 →
            inR (y2_34 + 2) ∧
            (0 ≤ (y2_34 + 2) ∧ (y2_34 + 2) < 77) ∧
            ∀ M98 : Mem, M98 = up3 M75 44 0 (y2_34 + 2) (M75 30 0 27) →
            inR (y2_34 + 4) ∧
            (0 ≤ (y2_34 + 4) ∧ (y2_34 + 4) < 77) ∧
            ∀ M108 : Mem, M108 = up3 M98 44 0 (y2_34 + 4) (-4) →
            V κ 5 M108 112 [some (.inr (30, 0)), none, some (.inl y2_34), some (.inl 0), some (.inl 0)] [] K) ∧
           (¬ (r75 = 0) →
            inR (y2_34 + 2) ∧
            (0 ≤ (y2_34 + 2) ∧ (y2_34 + 2) < 77) ∧
            ∀ M98 : Mem, M98 = up3 M75 44 0 (y2_34 + 2) (M75 30 0 27) →
            inR (y2_34 + 4) ∧
            (0 ≤ (y2_34 + 4) ∧ (y2_34 + 4) < 77) ∧
            ∀ M108 : Mem, M108 = up3 M98 44 0 (y2_34 + 4) (-4) →
            V κ 5 M108 112 [some (.inr (30, 0)), none, some (.inl y2_34), some (.inl 1), some (.inl 0)] [] K))))))))) ∧
       (¬ (r19 ≠ 0) →
        K (some 0) M19))))))) : V κ 5 M 0 [some (.inr (30, 0)), some (.inl x1), none, none, none] [] K := by
  refine v_aload_n C dX8_readsPicture_0 rfl ?_
  refine v_get C dX8_readsPicture_1 flX8_114 rfl (by decide) (by decide) (w := .inl (M 30 0 13)) rfl ?_
  refine v_bipush C dX8_readsPicture_4 (by decide) (by decide) ?_
  refine v_icmp C dX8_readsPicture_6 (tgt := 25) (by decide) (P := (M 30 0 13) = 7) rfl (fun c6 => ?_) (fun c6 => ?_)
  · replace h := h.1 c6
    refine v_iconst C dX8_readsPicture_25 (by decide) ?_
    exact v_zret C dX8_readsPicture_26 (by decide) h
  · replace h := h.2 c6
    refine v_aload_n C dX8_readsPicture_9 rfl ?_
    refine v_iload_n C dX8_readsPicture_10 rfl ?_
    refine v_iconst C dX8_readsPicture_11 (by decide) ?_
    refine v_iconst C dX8_readsPicture_12 (by decide) ?_
    refine v_aload_n C dX8_readsPicture_13 rfl ?_
    refine v_get C dX8_readsPicture_14 flX8_108 rfl (by decide) (by decide) (w := .inl (M 30 0 9)) rfl ?_
    refine v_iconst C dX8_readsPicture_17 (by decide) ?_
    refine v_isub C dX8_readsPicture_18 h.1 ?_
    replace h := h.2
    refine v_invV C ctX8_number dX8_readsPicture_19 ivX8_101 ⟨by decide, by decide, rfl, rfl⟩ ((x1, 2, 0, (M 30 0 9) - 1) : Int × Int × Int × Int) (As := [.inl x1, .inl 2, .inl 0, .inl ((M 30 0 9) - 1)]) rfl rfl rfl (by decide) rfl (st := []) rfl (Nat.le_of_ble_eq_true rfl) h (fun o M19 oM19 io19 g19 => ?_)
    replace h := rI_out g19
    clear g19
    obtain ⟨r19, rfl, h⟩ := h
    refine v_push ?_
    refine v_if C dX8_readsPicture_22 (tgt := 27) (by decide) (P := r19 ≠ 0) rfl (fun c22 => ?_) (fun c22 => ?_)
    · replace h := h.1 c22
      refine v_bipush C dX8_readsPicture_27 (by decide) (by decide) ?_
      refine v_aload_n C dX8_readsPicture_29 rfl ?_
      refine v_get C dX8_readsPicture_30 flX8_114 rfl (by decide) (by decide) (w := .inl (M19 30 0 13)) rfl ?_
      refine v_imul C dX8_readsPicture_33 h.1 ?_
      replace h := h.2
      refine v_nm (fun y2_34 ey2_34 => ?_)
      replace h := h y2_34 ey2_34
      refine v_istore_n C dX8_readsPicture_34 (by decide) (Nat.le_of_ble_eq_true rfl) (lv' := [some (.inr (30, 0)), some (.inl x1), some (.inl y2_34), none, none]) rfl ?_
      refine v_aload_n C dX8_readsPicture_35 rfl ?_
      refine v_get C dX8_readsPicture_36 flX8_25 rfl (by decide) (by decide) (w := .inr (44, 0)) rfl ?_
      refine v_iload_n C dX8_readsPicture_39 rfl ?_
      refine v_aload_n C dX8_readsPicture_40 rfl ?_
      refine v_get C dX8_readsPicture_41 flX8_87 rfl (by decide) (by decide) (w := .inl (M19 30 0 27)) rfl ?_
      refine v_iast C dX8_readsPicture_44 rfl h.1.1 h.1.2 ?_
      replace h := h.2
      refine v_nmM (fun M44 eM44 => ?_)
      replace h := h M44 eM44
      refine v_aload_n C dX8_readsPicture_45 rfl ?_
      refine v_iconst C dX8_readsPicture_46 (by decide) ?_
      refine v_iconst C dX8_readsPicture_47 (by decide) ?_
      refine v_bipush C dX8_readsPicture_48 (by decide) (by decide) ?_
      refine v_invV C ctX8_more dX8_readsPicture_50 ivX8_111 ⟨by decide, by decide, rfl, rfl⟩ ((2, 0, 20) : Int × Int × Int) (As := [.inl 2, .inl 0, .inl 20]) rfl rfl rfl (by decide) rfl (st := []) rfl (Nat.le_of_ble_eq_true rfl) h (fun o M50 oM50 io50 g50 => ?_)
      replace h := rI_out g50
      clear g50
      obtain ⟨r50, rfl, h⟩ := h
      refine v_push ?_
      refine v_istore_n C dX8_readsPicture_53 (by decide) (Nat.le_of_ble_eq_true rfl) (lv' := [some (.inr (30, 0)), some (.inl x1), some (.inl y2_34), some (.inl r50), none]) rfl ?_
      refine v_aload_n C dX8_readsPicture_54 rfl ?_
      refine v_get C dX8_readsPicture_55 flX8_25 rfl (by decide) (by decide) (w := .inr (44, 0)) rfl ?_
      refine v_iload_n C dX8_readsPicture_58 rfl ?_
      refine v_iconst C dX8_readsPicture_59 (by decide) ?_
      refine v_iadd C dX8_readsPicture_60 h.1 ?_
      replace h := h.2
      refine v_aload_n C dX8_readsPicture_61 rfl ?_
      refine v_get C dX8_readsPicture_62 flX8_87 rfl (by decide) (by decide) (w := .inl (M50 30 0 27)) rfl ?_
      refine v_iast C dX8_readsPicture_65 rfl h.1.1 h.1.2 ?_
      replace h := h.2
      refine v_nmM (fun M65 eM65 => ?_)
      replace h := h M65 eM65
      refine v_iload_n C dX8_readsPicture_66 rfl ?_
      refine v_if C dX8_readsPicture_67 (tgt := 85) (by decide) (P := r50 = 0) rfl (fun c67 => ?_) (fun c67 => ?_)
      · replace h := h.1 c67
        refine v_iconst C dX8_readsPicture_85 (by decide) ?_
        refine v_istore_n C dX8_readsPicture_86 (by decide) (Nat.le_of_ble_eq_true rfl) (lv' := [some (.inr (30, 0)), some (.inl x1), some (.inl y2_34), some (.inl 0), none]) rfl ?_
        refine v_aload_n C dX8_readsPicture_87 rfl ?_
        refine v_get C dX8_readsPicture_88 flX8_25 rfl (by decide) (by decide) (w := .inr (44, 0)) rfl ?_
        refine v_iload_n C dX8_readsPicture_91 rfl ?_
        refine v_iconst C dX8_readsPicture_92 (by decide) ?_
        refine v_iadd C dX8_readsPicture_93 h.1 ?_
        replace h := h.2
        refine v_aload_n C dX8_readsPicture_94 rfl ?_
        refine v_get C dX8_readsPicture_95 flX8_87 rfl (by decide) (by decide) (w := .inl (M65 30 0 27)) rfl ?_
        refine v_iast C dX8_readsPicture_98 rfl h.1.1 h.1.2 ?_
        replace h := h.2
        refine v_nmM (fun M98 eM98 => ?_)
        replace h := h M98 eM98
        refine v_aload_n C dX8_readsPicture_99 rfl ?_
        refine v_get C dX8_readsPicture_100 flX8_25 rfl (by decide) (by decide) (w := .inr (44, 0)) rfl ?_
        refine v_iload_n C dX8_readsPicture_103 rfl ?_
        refine v_iconst C dX8_readsPicture_104 (by decide) ?_
        refine v_iadd C dX8_readsPicture_105 h.1 ?_
        replace h := h.2
        refine v_bipush C dX8_readsPicture_106 (by decide) (by decide) ?_
        refine v_iast C dX8_readsPicture_108 rfl h.1.1 h.1.2 ?_
        replace h := h.2
        refine v_nmM (fun M108 eM108 => ?_)
        replace h := h M108 eM108
        refine v_iconst C dX8_readsPicture_109 (by decide) ?_
        refine v_istore C dX8_readsPicture_110 (by decide) (Nat.le_of_ble_eq_true rfl) (lv' := [some (.inr (30, 0)), some (.inl x1), some (.inl y2_34), some (.inl 0), some (.inl 0)]) rfl ?_
        refine v_weak [some (.inr (30, 0)), none, some (.inl y2_34), some (.inl 0), some (.inl 0)] ⟨rfl, rfl, rfl, rfl, trivial⟩ ?_
        exact h
      · replace h := h.2 c67
        refine v_aload_n C dX8_readsPicture_70 rfl ?_
        refine v_iconst C dX8_readsPicture_71 (by decide) ?_
        refine v_iconst C dX8_readsPicture_72 (by decide) ?_
        refine v_bipush C dX8_readsPicture_73 (by decide) (by decide) ?_
        refine v_invV C ctX8_more dX8_readsPicture_75 ivX8_111 ⟨by decide, by decide, rfl, rfl⟩ ((2, 0, 20) : Int × Int × Int) (As := [.inl 2, .inl 0, .inl 20]) rfl rfl rfl (by decide) rfl (st := []) rfl (Nat.le_of_ble_eq_true rfl) h (fun o M75 oM75 io75 g75 => ?_)
        replace h := rI_out g75
        clear g75
        obtain ⟨r75, rfl, h⟩ := h
        refine v_push ?_
        refine v_if C dX8_readsPicture_78 (tgt := 85) (by decide) (P := r75 = 0) rfl (fun c78 => ?_) (fun c78 => ?_)
        · replace h := h.1 c78
          refine v_iconst C dX8_readsPicture_85 (by decide) ?_
          refine v_istore_n C dX8_readsPicture_86 (by decide) (Nat.le_of_ble_eq_true rfl) (lv' := [some (.inr (30, 0)), some (.inl x1), some (.inl y2_34), some (.inl 0), none]) rfl ?_
          refine v_aload_n C dX8_readsPicture_87 rfl ?_
          refine v_get C dX8_readsPicture_88 flX8_25 rfl (by decide) (by decide) (w := .inr (44, 0)) rfl ?_
          refine v_iload_n C dX8_readsPicture_91 rfl ?_
          refine v_iconst C dX8_readsPicture_92 (by decide) ?_
          refine v_iadd C dX8_readsPicture_93 h.1 ?_
          replace h := h.2
          refine v_aload_n C dX8_readsPicture_94 rfl ?_
          refine v_get C dX8_readsPicture_95 flX8_87 rfl (by decide) (by decide) (w := .inl (M75 30 0 27)) rfl ?_
          refine v_iast C dX8_readsPicture_98 rfl h.1.1 h.1.2 ?_
          replace h := h.2
          refine v_nmM (fun M98 eM98 => ?_)
          replace h := h M98 eM98
          refine v_aload_n C dX8_readsPicture_99 rfl ?_
          refine v_get C dX8_readsPicture_100 flX8_25 rfl (by decide) (by decide) (w := .inr (44, 0)) rfl ?_
          refine v_iload_n C dX8_readsPicture_103 rfl ?_
          refine v_iconst C dX8_readsPicture_104 (by decide) ?_
          refine v_iadd C dX8_readsPicture_105 h.1 ?_
          replace h := h.2
          refine v_bipush C dX8_readsPicture_106 (by decide) (by decide) ?_
          refine v_iast C dX8_readsPicture_108 rfl h.1.1 h.1.2 ?_
          replace h := h.2
          refine v_nmM (fun M108 eM108 => ?_)
          replace h := h M108 eM108
          refine v_iconst C dX8_readsPicture_109 (by decide) ?_
          refine v_istore C dX8_readsPicture_110 (by decide) (Nat.le_of_ble_eq_true rfl) (lv' := [some (.inr (30, 0)), some (.inl x1), some (.inl y2_34), some (.inl 0), some (.inl 0)]) rfl ?_
          refine v_weak [some (.inr (30, 0)), none, some (.inl y2_34), some (.inl 0), some (.inl 0)] ⟨rfl, rfl, rfl, rfl, trivial⟩ ?_
          exact h
        · replace h := h.2 c78
          refine v_iconst C dX8_readsPicture_81 (by decide) ?_
          refine v_goto C dX8_readsPicture_82 (tgt := 86) (by decide) ?_
          refine v_istore_n C dX8_readsPicture_86 (by decide) (Nat.le_of_ble_eq_true rfl) (lv' := [some (.inr (30, 0)), some (.inl x1), some (.inl y2_34), some (.inl 1), none]) rfl ?_
          refine v_aload_n C dX8_readsPicture_87 rfl ?_
          refine v_get C dX8_readsPicture_88 flX8_25 rfl (by decide) (by decide) (w := .inr (44, 0)) rfl ?_
          refine v_iload_n C dX8_readsPicture_91 rfl ?_
          refine v_iconst C dX8_readsPicture_92 (by decide) ?_
          refine v_iadd C dX8_readsPicture_93 h.1 ?_
          replace h := h.2
          refine v_aload_n C dX8_readsPicture_94 rfl ?_
          refine v_get C dX8_readsPicture_95 flX8_87 rfl (by decide) (by decide) (w := .inl (M75 30 0 27)) rfl ?_
          refine v_iast C dX8_readsPicture_98 rfl h.1.1 h.1.2 ?_
          replace h := h.2
          refine v_nmM (fun M98 eM98 => ?_)
          replace h := h M98 eM98
          refine v_aload_n C dX8_readsPicture_99 rfl ?_
          refine v_get C dX8_readsPicture_100 flX8_25 rfl (by decide) (by decide) (w := .inr (44, 0)) rfl ?_
          refine v_iload_n C dX8_readsPicture_103 rfl ?_
          refine v_iconst C dX8_readsPicture_104 (by decide) ?_
          refine v_iadd C dX8_readsPicture_105 h.1 ?_
          replace h := h.2
          refine v_bipush C dX8_readsPicture_106 (by decide) (by decide) ?_
          refine v_iast C dX8_readsPicture_108 rfl h.1.1 h.1.2 ?_
          replace h := h.2
          refine v_nmM (fun M108 eM108 => ?_)
          replace h := h M108 eM108
          refine v_iconst C dX8_readsPicture_109 (by decide) ?_
          refine v_istore C dX8_readsPicture_110 (by decide) (Nat.le_of_ble_eq_true rfl) (lv' := [some (.inr (30, 0)), some (.inl x1), some (.inl y2_34), some (.inl 1), some (.inl 0)]) rfl ?_
          refine v_weak [some (.inr (30, 0)), none, some (.inl y2_34), some (.inl 1), some (.inl 0)] ⟨rfl, rfl, rfl, rfl, trivial⟩ ?_
          exact h
    · replace h := h.2 c22
      refine v_iconst C dX8_readsPicture_25 (by decide) ?_
      exact v_zret C dX8_readsPicture_26 (by decide) h
set_option maxHeartbeats 4000000 in
set_option maxRecDepth 20000 in
theorem sgX8_readsPicture_112 {κ : Kx} {K : Kont} {M : Mem} (C : Cx κ RX8 cX8_readsPicture 5 (some .boolean) rmX8_readsPicture domM) (x2 : Int) (x3 : Int) (x4 : Int)
    (h :
    ((x3 = 0 →
      inR (x2 + 3) ∧
      (0 ≤ (x2 + 3) ∧ (x2 + 3) < 77) ∧
      ∀ M220 : Mem, M220 = up3 M 44 0 (x2 + 3) x4 →
      inR ((M220 30 0 13) + 1) ∧
      ∀ M228 : Mem, M228 = up3 M220 30 0 13 ((M220 30 0 13) + 1) →
      (x3 = 0 ∨ x3 = 1) ∧ K (some x3) M228) ∧
     (¬ (x3 = 0) →
      ((3 ≤ x4 →
        inR (x2 + 3) ∧
        (0 ≤ (x2 + 3) ∧ (x2 + 3) < 77) ∧
        ∀ M220 : Mem, M220 = up3 M 44 0 (x2 + 3) x4 →
        inR ((M220 30 0 13) + 1) ∧
        ∀ M228 : Mem, M228 = up3 M220 30 0 13 ((M220 30 0 13) + 1) →
        (x3 = 0 ∨ x3 = 1) ∧ K (some x3) M228) ∧
       (¬ (3 ≤ x4) →
        ((x4 = 0 →
          spX8_more 2 1 30 M (rI (fun r145 M145 =>
          inR (x2 + 5) ∧
          inR (2 * x4) ∧
          inR ((x2 + 5) + (2 * x4)) ∧
          (0 ≤ ((x2 + 5) + (2 * x4)) ∧ ((x2 + 5) + (2 * x4)) < 77) ∧
          ∀ M165 : Mem, M165 = up3 M145 44 0 ((x2 + 5) + (2 * x4)) (M145 30 0 27) →
          ((r145 = 0 →
            inR (x2 + 6) ∧
            inR (2 * x4) ∧
            inR ((x2 + 6) + (2 * x4)) ∧
            (0 ≤ ((x2 + 6) + (2 * x4)) ∧ ((x2 + 6) + (2 * x4)) < 77) ∧
            ∀ M204 : Mem, M204 = up3 M165 44 0 ((x2 + 6) + (2 * x4)) (M165 30 0 27) →
            inR (x4 + 1) ∧
            V κ 5 M204 112 [some (.inr (30, 0)), none, some (.inl x2), some (.inl 0), some (.inl (x4 + 1))] [] K) ∧
           (¬ (r145 = 0) →
            spX8_more 2 1 99 M165 (rI (fun r175 M175 =>
            ((r175 = 0 →
              inR (x2 + 6) ∧
              inR (2 * x4) ∧
              inR ((x2 + 6) + (2 * x4)) ∧
              (0 ≤ ((x2 + 6) + (2 * x4)) ∧ ((x2 + 6) + (2 * x4)) < 77) ∧
              ∀ M204 : Mem, M204 = up3 M175 44 0 ((x2 + 6) + (2 * x4)) (M175 30 0 27) →
              inR (x4 + 1) ∧
              V κ 5 M204 112 [some (.inr (30, 0)), none, some (.inl x2), some (.inl 0), some (.inl (x4 + 1))] [] K) ∧
             (¬ (r175 = 0) →
              inR (x2 + 6) ∧
              inR (2 * x4) ∧
              inR ((x2 + 6) + (2 * x4)) ∧
              (0 ≤ ((x2 + 6) + (2 * x4)) ∧ ((x2 + 6) + (2 * x4)) < 77) ∧
              ∀ M204 : Mem, M204 = up3 M175 44 0 ((x2 + 6) + (2 * x4)) (M175 30 0 27) →
              inR (x4 + 1) ∧
              V κ 5 M204 112 [some (.inr (30, 0)), none, some (.inl x2), some (.inl 1), some (.inl (x4 + 1))] [] K))))))))) ∧
         (¬ (x4 = 0) →
          spX8_letterAt (M 30 0 28) M (rI (fun r132 M132 =>
          ((r132 ≠ 44 →
            inR (x2 + 3) ∧
            (0 ≤ (x2 + 3) ∧ (x2 + 3) < 77) ∧
            ∀ M220 : Mem, M220 = up3 M132 44 0 (x2 + 3) x4 →
            inR ((M220 30 0 13) + 1) ∧
            ∀ M228 : Mem, M228 = up3 M220 30 0 13 ((M220 30 0 13) + 1) →
            (x3 = 0 ∨ x3 = 1) ∧ K (some x3) M228) ∧
           (¬ (r132 ≠ 44) →
            spX8_more 2 1 30 M132 (rI (fun r145 M145 =>
            inR (x2 + 5) ∧
            inR (2 * x4) ∧
            inR ((x2 + 5) + (2 * x4)) ∧
            (0 ≤ ((x2 + 5) + (2 * x4)) ∧ ((x2 + 5) + (2 * x4)) < 77) ∧
            ∀ M165 : Mem, M165 = up3 M145 44 0 ((x2 + 5) + (2 * x4)) (M145 30 0 27) →
            ((r145 = 0 →
              inR (x2 + 6) ∧
              inR (2 * x4) ∧
              inR ((x2 + 6) + (2 * x4)) ∧
              (0 ≤ ((x2 + 6) + (2 * x4)) ∧ ((x2 + 6) + (2 * x4)) < 77) ∧
              ∀ M204 : Mem, M204 = up3 M165 44 0 ((x2 + 6) + (2 * x4)) (M165 30 0 27) →
              inR (x4 + 1) ∧
              V κ 5 M204 112 [some (.inr (30, 0)), none, some (.inl x2), some (.inl 0), some (.inl (x4 + 1))] [] K) ∧
             (¬ (r145 = 0) →
              spX8_more 2 1 99 M165 (rI (fun r175 M175 =>
              ((r175 = 0 →
                inR (x2 + 6) ∧
                inR (2 * x4) ∧
                inR ((x2 + 6) + (2 * x4)) ∧
                (0 ≤ ((x2 + 6) + (2 * x4)) ∧ ((x2 + 6) + (2 * x4)) < 77) ∧
                ∀ M204 : Mem, M204 = up3 M175 44 0 ((x2 + 6) + (2 * x4)) (M175 30 0 27) →
                inR (x4 + 1) ∧
                V κ 5 M204 112 [some (.inr (30, 0)), none, some (.inl x2), some (.inl 0), some (.inl (x4 + 1))] [] K) ∧
               (¬ (r175 = 0) →
                inR (x2 + 6) ∧
                inR (2 * x4) ∧
                inR ((x2 + 6) + (2 * x4)) ∧
                (0 ≤ ((x2 + 6) + (2 * x4)) ∧ ((x2 + 6) + (2 * x4)) < 77) ∧
                ∀ M204 : Mem, M204 = up3 M175 44 0 ((x2 + 6) + (2 * x4)) (M175 30 0 27) →
                inR (x4 + 1) ∧
                V κ 5 M204 112 [some (.inr (30, 0)), none, some (.inl x2), some (.inl 1), some (.inl (x4 + 1))] [] K))))))))))))))))))) : V κ 5 M 112 [some (.inr (30, 0)), none, some (.inl x2), some (.inl x3), some (.inl x4)] [] K := by
  refine v_iload_n C dX8_readsPicture_112 rfl ?_
  refine v_if C dX8_readsPicture_113 (tgt := 211) (by decide) (P := x3 = 0) rfl (fun c113 => ?_) (fun c113 => ?_)
  · replace h := h.1 c113
    refine v_aload_n C dX8_readsPicture_211 rfl ?_
    refine v_get C dX8_readsPicture_212 flX8_25 rfl (by decide) (by decide) (w := .inr (44, 0)) rfl ?_
    refine v_iload_n C dX8_readsPicture_215 rfl ?_
    refine v_iconst C dX8_readsPicture_216 (by decide) ?_
    refine v_iadd C dX8_readsPicture_217 h.1 ?_
    replace h := h.2
    refine v_iload C dX8_readsPicture_218 rfl ?_
    refine v_iast C dX8_readsPicture_220 rfl h.1.1 h.1.2 ?_
    replace h := h.2
    refine v_nmM (fun M220 eM220 => ?_)
    replace h := h M220 eM220
    refine v_aload_n C dX8_readsPicture_221 rfl ?_
    refine v_dup C dX8_readsPicture_222 ?_
    refine v_get C dX8_readsPicture_223 flX8_114 rfl (by decide) (by decide) (w := .inl (M220 30 0 13)) rfl ?_
    refine v_iconst C dX8_readsPicture_226 (by decide) ?_
    refine v_iadd C dX8_readsPicture_227 h.1 ?_
    replace h := h.2
    refine v_put C dX8_readsPicture_228 plX8_114 rfl (by decide) (by decide) rfl rfl rfl ?_
    refine v_nmM (fun M228 eM228 => ?_)
    replace h := h M228 eM228
    refine v_iload_n C dX8_readsPicture_231 rfl ?_
    exact v_zret C dX8_readsPicture_232 h.1 h.2
  · replace h := h.2 c113
    refine v_iload C dX8_readsPicture_116 rfl ?_
    refine v_iconst C dX8_readsPicture_118 (by decide) ?_
    refine v_icmp C dX8_readsPicture_119 (tgt := 211) (by decide) (P := 3 ≤ x4) rfl (fun c119 => ?_) (fun c119 => ?_)
    · replace h := h.1 c119
      refine v_aload_n C dX8_readsPicture_211 rfl ?_
      refine v_get C dX8_readsPicture_212 flX8_25 rfl (by decide) (by decide) (w := .inr (44, 0)) rfl ?_
      refine v_iload_n C dX8_readsPicture_215 rfl ?_
      refine v_iconst C dX8_readsPicture_216 (by decide) ?_
      refine v_iadd C dX8_readsPicture_217 h.1 ?_
      replace h := h.2
      refine v_iload C dX8_readsPicture_218 rfl ?_
      refine v_iast C dX8_readsPicture_220 rfl h.1.1 h.1.2 ?_
      replace h := h.2
      refine v_nmM (fun M220 eM220 => ?_)
      replace h := h M220 eM220
      refine v_aload_n C dX8_readsPicture_221 rfl ?_
      refine v_dup C dX8_readsPicture_222 ?_
      refine v_get C dX8_readsPicture_223 flX8_114 rfl (by decide) (by decide) (w := .inl (M220 30 0 13)) rfl ?_
      refine v_iconst C dX8_readsPicture_226 (by decide) ?_
      refine v_iadd C dX8_readsPicture_227 h.1 ?_
      replace h := h.2
      refine v_put C dX8_readsPicture_228 plX8_114 rfl (by decide) (by decide) rfl rfl rfl ?_
      refine v_nmM (fun M228 eM228 => ?_)
      replace h := h M228 eM228
      refine v_iload_n C dX8_readsPicture_231 rfl ?_
      exact v_zret C dX8_readsPicture_232 h.1 h.2
    · replace h := h.2 c119
      refine v_iload C dX8_readsPicture_122 rfl ?_
      refine v_if C dX8_readsPicture_124 (tgt := 140) (by decide) (P := x4 = 0) rfl (fun c124 => ?_) (fun c124 => ?_)
      · replace h := h.1 c124
        refine v_aload_n C dX8_readsPicture_140 rfl ?_
        refine v_iconst C dX8_readsPicture_141 (by decide) ?_
        refine v_iconst C dX8_readsPicture_142 (by decide) ?_
        refine v_bipush C dX8_readsPicture_143 (by decide) (by decide) ?_
        refine v_invV C ctX8_more dX8_readsPicture_145 ivX8_111 ⟨by decide, by decide, rfl, rfl⟩ ((2, 1, 30) : Int × Int × Int) (As := [.inl 2, .inl 1, .inl 30]) rfl rfl rfl (by decide) rfl (st := []) rfl (Nat.le_of_ble_eq_true rfl) h (fun o M145 oM145 io145 g145 => ?_)
        replace h := rI_out g145
        clear g145
        obtain ⟨r145, rfl, h⟩ := h
        refine v_push ?_
        refine v_istore_n C dX8_readsPicture_148 (by decide) (Nat.le_of_ble_eq_true rfl) (lv' := [some (.inr (30, 0)), none, some (.inl x2), some (.inl r145), some (.inl x4)]) rfl ?_
        refine v_aload_n C dX8_readsPicture_149 rfl ?_
        refine v_get C dX8_readsPicture_150 flX8_25 rfl (by decide) (by decide) (w := .inr (44, 0)) rfl ?_
        refine v_iload_n C dX8_readsPicture_153 rfl ?_
        refine v_iconst C dX8_readsPicture_154 (by decide) ?_
        refine v_iadd C dX8_readsPicture_155 h.1 ?_
        replace h := h.2
        refine v_iconst C dX8_readsPicture_156 (by decide) ?_
        refine v_iload C dX8_readsPicture_157 rfl ?_
        refine v_imul C dX8_readsPicture_159 h.1 ?_
        replace h := h.2
        refine v_iadd C dX8_readsPicture_160 h.1 ?_
        replace h := h.2
        refine v_aload_n C dX8_readsPicture_161 rfl ?_
        refine v_get C dX8_readsPicture_162 flX8_87 rfl (by decide) (by decide) (w := .inl (M145 30 0 27)) rfl ?_
        refine v_iast C dX8_readsPicture_165 rfl h.1.1 h.1.2 ?_
        replace h := h.2
        refine v_nmM (fun M165 eM165 => ?_)
        replace h := h M165 eM165
        refine v_iload_n C dX8_readsPicture_166 rfl ?_
        refine v_if C dX8_readsPicture_167 (tgt := 185) (by decide) (P := r145 = 0) rfl (fun c167 => ?_) (fun c167 => ?_)
        · replace h := h.1 c167
          refine v_iconst C dX8_readsPicture_185 (by decide) ?_
          refine v_istore_n C dX8_readsPicture_186 (by decide) (Nat.le_of_ble_eq_true rfl) (lv' := [some (.inr (30, 0)), none, some (.inl x2), some (.inl 0), some (.inl x4)]) rfl ?_
          refine v_aload_n C dX8_readsPicture_187 rfl ?_
          refine v_get C dX8_readsPicture_188 flX8_25 rfl (by decide) (by decide) (w := .inr (44, 0)) rfl ?_
          refine v_iload_n C dX8_readsPicture_191 rfl ?_
          refine v_bipush C dX8_readsPicture_192 (by decide) (by decide) ?_
          refine v_iadd C dX8_readsPicture_194 h.1 ?_
          replace h := h.2
          refine v_iconst C dX8_readsPicture_195 (by decide) ?_
          refine v_iload C dX8_readsPicture_196 rfl ?_
          refine v_imul C dX8_readsPicture_198 h.1 ?_
          replace h := h.2
          refine v_iadd C dX8_readsPicture_199 h.1 ?_
          replace h := h.2
          refine v_aload_n C dX8_readsPicture_200 rfl ?_
          refine v_get C dX8_readsPicture_201 flX8_87 rfl (by decide) (by decide) (w := .inl (M165 30 0 27)) rfl ?_
          refine v_iast C dX8_readsPicture_204 rfl h.1.1 h.1.2 ?_
          replace h := h.2
          refine v_nmM (fun M204 eM204 => ?_)
          replace h := h M204 eM204
          refine v_iinc C dX8_readsPicture_205 (by decide) rfl h.1 (lv' := [some (.inr (30, 0)), none, some (.inl x2), some (.inl 0), some (.inl (x4 + 1))]) rfl ?_
          replace h := h.2
          refine v_goto C dX8_readsPicture_208 (tgt := 112) (by decide) ?_
          refine v_weak [some (.inr (30, 0)), none, some (.inl x2), some (.inl 0), some (.inl (x4 + 1))] ⟨rfl, rfl, rfl, rfl, trivial⟩ ?_
          exact h
        · replace h := h.2 c167
          refine v_aload_n C dX8_readsPicture_170 rfl ?_
          refine v_iconst C dX8_readsPicture_171 (by decide) ?_
          refine v_iconst C dX8_readsPicture_172 (by decide) ?_
          refine v_bipush C dX8_readsPicture_173 (by decide) (by decide) ?_
          refine v_invV C ctX8_more dX8_readsPicture_175 ivX8_111 ⟨by decide, by decide, rfl, rfl⟩ ((2, 1, 99) : Int × Int × Int) (As := [.inl 2, .inl 1, .inl 99]) rfl rfl rfl (by decide) rfl (st := []) rfl (Nat.le_of_ble_eq_true rfl) h (fun o M175 oM175 io175 g175 => ?_)
          replace h := rI_out g175
          clear g175
          obtain ⟨r175, rfl, h⟩ := h
          refine v_push ?_
          refine v_if C dX8_readsPicture_178 (tgt := 185) (by decide) (P := r175 = 0) rfl (fun c178 => ?_) (fun c178 => ?_)
          · replace h := h.1 c178
            refine v_iconst C dX8_readsPicture_185 (by decide) ?_
            refine v_istore_n C dX8_readsPicture_186 (by decide) (Nat.le_of_ble_eq_true rfl) (lv' := [some (.inr (30, 0)), none, some (.inl x2), some (.inl 0), some (.inl x4)]) rfl ?_
            refine v_aload_n C dX8_readsPicture_187 rfl ?_
            refine v_get C dX8_readsPicture_188 flX8_25 rfl (by decide) (by decide) (w := .inr (44, 0)) rfl ?_
            refine v_iload_n C dX8_readsPicture_191 rfl ?_
            refine v_bipush C dX8_readsPicture_192 (by decide) (by decide) ?_
            refine v_iadd C dX8_readsPicture_194 h.1 ?_
            replace h := h.2
            refine v_iconst C dX8_readsPicture_195 (by decide) ?_
            refine v_iload C dX8_readsPicture_196 rfl ?_
            refine v_imul C dX8_readsPicture_198 h.1 ?_
            replace h := h.2
            refine v_iadd C dX8_readsPicture_199 h.1 ?_
            replace h := h.2
            refine v_aload_n C dX8_readsPicture_200 rfl ?_
            refine v_get C dX8_readsPicture_201 flX8_87 rfl (by decide) (by decide) (w := .inl (M175 30 0 27)) rfl ?_
            refine v_iast C dX8_readsPicture_204 rfl h.1.1 h.1.2 ?_
            replace h := h.2
            refine v_nmM (fun M204 eM204 => ?_)
            replace h := h M204 eM204
            refine v_iinc C dX8_readsPicture_205 (by decide) rfl h.1 (lv' := [some (.inr (30, 0)), none, some (.inl x2), some (.inl 0), some (.inl (x4 + 1))]) rfl ?_
            replace h := h.2
            refine v_goto C dX8_readsPicture_208 (tgt := 112) (by decide) ?_
            refine v_weak [some (.inr (30, 0)), none, some (.inl x2), some (.inl 0), some (.inl (x4 + 1))] ⟨rfl, rfl, rfl, rfl, trivial⟩ ?_
            exact h
          · replace h := h.2 c178
            refine v_iconst C dX8_readsPicture_181 (by decide) ?_
            refine v_goto C dX8_readsPicture_182 (tgt := 186) (by decide) ?_
            refine v_istore_n C dX8_readsPicture_186 (by decide) (Nat.le_of_ble_eq_true rfl) (lv' := [some (.inr (30, 0)), none, some (.inl x2), some (.inl 1), some (.inl x4)]) rfl ?_
            refine v_aload_n C dX8_readsPicture_187 rfl ?_
            refine v_get C dX8_readsPicture_188 flX8_25 rfl (by decide) (by decide) (w := .inr (44, 0)) rfl ?_
            refine v_iload_n C dX8_readsPicture_191 rfl ?_
            refine v_bipush C dX8_readsPicture_192 (by decide) (by decide) ?_
            refine v_iadd C dX8_readsPicture_194 h.1 ?_
            replace h := h.2
            refine v_iconst C dX8_readsPicture_195 (by decide) ?_
            refine v_iload C dX8_readsPicture_196 rfl ?_
            refine v_imul C dX8_readsPicture_198 h.1 ?_
            replace h := h.2
            refine v_iadd C dX8_readsPicture_199 h.1 ?_
            replace h := h.2
            refine v_aload_n C dX8_readsPicture_200 rfl ?_
            refine v_get C dX8_readsPicture_201 flX8_87 rfl (by decide) (by decide) (w := .inl (M175 30 0 27)) rfl ?_
            refine v_iast C dX8_readsPicture_204 rfl h.1.1 h.1.2 ?_
            replace h := h.2
            refine v_nmM (fun M204 eM204 => ?_)
            replace h := h M204 eM204
            refine v_iinc C dX8_readsPicture_205 (by decide) rfl h.1 (lv' := [some (.inr (30, 0)), none, some (.inl x2), some (.inl 1), some (.inl (x4 + 1))]) rfl ?_
            replace h := h.2
            refine v_goto C dX8_readsPicture_208 (tgt := 112) (by decide) ?_
            refine v_weak [some (.inr (30, 0)), none, some (.inl x2), some (.inl 1), some (.inl (x4 + 1))] ⟨rfl, rfl, rfl, rfl, trivial⟩ ?_
            exact h
      · replace h := h.2 c124
        refine v_aload_n C dX8_readsPicture_127 rfl ?_
        refine v_aload_n C dX8_readsPicture_128 rfl ?_
        refine v_get C dX8_readsPicture_129 flX8_94 rfl (by decide) (by decide) (w := .inl (M 30 0 28)) rfl ?_
        refine v_invV C ctX8_letterAt dX8_readsPicture_132 ivX8_83 ⟨by decide, by decide, rfl, rfl⟩ (M 30 0 28 : Int) (As := [.inl (M 30 0 28)]) rfl rfl rfl (by decide) rfl (st := []) rfl (Nat.le_of_ble_eq_true rfl) h (fun o M132 oM132 io132 g132 => ?_)
        replace h := rI_out g132
        clear g132
        obtain ⟨r132, rfl, h⟩ := h
        refine v_push ?_
        refine v_bipush C dX8_readsPicture_135 (by decide) (by decide) ?_
        refine v_icmp C dX8_readsPicture_137 (tgt := 211) (by decide) (P := r132 ≠ 44) rfl (fun c137 => ?_) (fun c137 => ?_)
        · replace h := h.1 c137
          refine v_aload_n C dX8_readsPicture_211 rfl ?_
          refine v_get C dX8_readsPicture_212 flX8_25 rfl (by decide) (by decide) (w := .inr (44, 0)) rfl ?_
          refine v_iload_n C dX8_readsPicture_215 rfl ?_
          refine v_iconst C dX8_readsPicture_216 (by decide) ?_
          refine v_iadd C dX8_readsPicture_217 h.1 ?_
          replace h := h.2
          refine v_iload C dX8_readsPicture_218 rfl ?_
          refine v_iast C dX8_readsPicture_220 rfl h.1.1 h.1.2 ?_
          replace h := h.2
          refine v_nmM (fun M220 eM220 => ?_)
          replace h := h M220 eM220
          refine v_aload_n C dX8_readsPicture_221 rfl ?_
          refine v_dup C dX8_readsPicture_222 ?_
          refine v_get C dX8_readsPicture_223 flX8_114 rfl (by decide) (by decide) (w := .inl (M220 30 0 13)) rfl ?_
          refine v_iconst C dX8_readsPicture_226 (by decide) ?_
          refine v_iadd C dX8_readsPicture_227 h.1 ?_
          replace h := h.2
          refine v_put C dX8_readsPicture_228 plX8_114 rfl (by decide) (by decide) rfl rfl rfl ?_
          refine v_nmM (fun M228 eM228 => ?_)
          replace h := h M228 eM228
          refine v_iload_n C dX8_readsPicture_231 rfl ?_
          exact v_zret C dX8_readsPicture_232 h.1 h.2
        · replace h := h.2 c137
          refine v_aload_n C dX8_readsPicture_140 rfl ?_
          refine v_iconst C dX8_readsPicture_141 (by decide) ?_
          refine v_iconst C dX8_readsPicture_142 (by decide) ?_
          refine v_bipush C dX8_readsPicture_143 (by decide) (by decide) ?_
          refine v_invV C ctX8_more dX8_readsPicture_145 ivX8_111 ⟨by decide, by decide, rfl, rfl⟩ ((2, 1, 30) : Int × Int × Int) (As := [.inl 2, .inl 1, .inl 30]) rfl rfl rfl (by decide) rfl (st := []) rfl (Nat.le_of_ble_eq_true rfl) h (fun o M145 oM145 io145 g145 => ?_)
          replace h := rI_out g145
          clear g145
          obtain ⟨r145, rfl, h⟩ := h
          refine v_push ?_
          refine v_istore_n C dX8_readsPicture_148 (by decide) (Nat.le_of_ble_eq_true rfl) (lv' := [some (.inr (30, 0)), none, some (.inl x2), some (.inl r145), some (.inl x4)]) rfl ?_
          refine v_aload_n C dX8_readsPicture_149 rfl ?_
          refine v_get C dX8_readsPicture_150 flX8_25 rfl (by decide) (by decide) (w := .inr (44, 0)) rfl ?_
          refine v_iload_n C dX8_readsPicture_153 rfl ?_
          refine v_iconst C dX8_readsPicture_154 (by decide) ?_
          refine v_iadd C dX8_readsPicture_155 h.1 ?_
          replace h := h.2
          refine v_iconst C dX8_readsPicture_156 (by decide) ?_
          refine v_iload C dX8_readsPicture_157 rfl ?_
          refine v_imul C dX8_readsPicture_159 h.1 ?_
          replace h := h.2
          refine v_iadd C dX8_readsPicture_160 h.1 ?_
          replace h := h.2
          refine v_aload_n C dX8_readsPicture_161 rfl ?_
          refine v_get C dX8_readsPicture_162 flX8_87 rfl (by decide) (by decide) (w := .inl (M145 30 0 27)) rfl ?_
          refine v_iast C dX8_readsPicture_165 rfl h.1.1 h.1.2 ?_
          replace h := h.2
          refine v_nmM (fun M165 eM165 => ?_)
          replace h := h M165 eM165
          refine v_iload_n C dX8_readsPicture_166 rfl ?_
          refine v_if C dX8_readsPicture_167 (tgt := 185) (by decide) (P := r145 = 0) rfl (fun c167 => ?_) (fun c167 => ?_)
          · replace h := h.1 c167
            refine v_iconst C dX8_readsPicture_185 (by decide) ?_
            refine v_istore_n C dX8_readsPicture_186 (by decide) (Nat.le_of_ble_eq_true rfl) (lv' := [some (.inr (30, 0)), none, some (.inl x2), some (.inl 0), some (.inl x4)]) rfl ?_
            refine v_aload_n C dX8_readsPicture_187 rfl ?_
            refine v_get C dX8_readsPicture_188 flX8_25 rfl (by decide) (by decide) (w := .inr (44, 0)) rfl ?_
            refine v_iload_n C dX8_readsPicture_191 rfl ?_
            refine v_bipush C dX8_readsPicture_192 (by decide) (by decide) ?_
            refine v_iadd C dX8_readsPicture_194 h.1 ?_
            replace h := h.2
            refine v_iconst C dX8_readsPicture_195 (by decide) ?_
            refine v_iload C dX8_readsPicture_196 rfl ?_
            refine v_imul C dX8_readsPicture_198 h.1 ?_
            replace h := h.2
            refine v_iadd C dX8_readsPicture_199 h.1 ?_
            replace h := h.2
            refine v_aload_n C dX8_readsPicture_200 rfl ?_
            refine v_get C dX8_readsPicture_201 flX8_87 rfl (by decide) (by decide) (w := .inl (M165 30 0 27)) rfl ?_
            refine v_iast C dX8_readsPicture_204 rfl h.1.1 h.1.2 ?_
            replace h := h.2
            refine v_nmM (fun M204 eM204 => ?_)
            replace h := h M204 eM204
            refine v_iinc C dX8_readsPicture_205 (by decide) rfl h.1 (lv' := [some (.inr (30, 0)), none, some (.inl x2), some (.inl 0), some (.inl (x4 + 1))]) rfl ?_
            replace h := h.2
            refine v_goto C dX8_readsPicture_208 (tgt := 112) (by decide) ?_
            refine v_weak [some (.inr (30, 0)), none, some (.inl x2), some (.inl 0), some (.inl (x4 + 1))] ⟨rfl, rfl, rfl, rfl, trivial⟩ ?_
            exact h
          · replace h := h.2 c167
            refine v_aload_n C dX8_readsPicture_170 rfl ?_
            refine v_iconst C dX8_readsPicture_171 (by decide) ?_
            refine v_iconst C dX8_readsPicture_172 (by decide) ?_
            refine v_bipush C dX8_readsPicture_173 (by decide) (by decide) ?_
            refine v_invV C ctX8_more dX8_readsPicture_175 ivX8_111 ⟨by decide, by decide, rfl, rfl⟩ ((2, 1, 99) : Int × Int × Int) (As := [.inl 2, .inl 1, .inl 99]) rfl rfl rfl (by decide) rfl (st := []) rfl (Nat.le_of_ble_eq_true rfl) h (fun o M175 oM175 io175 g175 => ?_)
            replace h := rI_out g175
            clear g175
            obtain ⟨r175, rfl, h⟩ := h
            refine v_push ?_
            refine v_if C dX8_readsPicture_178 (tgt := 185) (by decide) (P := r175 = 0) rfl (fun c178 => ?_) (fun c178 => ?_)
            · replace h := h.1 c178
              refine v_iconst C dX8_readsPicture_185 (by decide) ?_
              refine v_istore_n C dX8_readsPicture_186 (by decide) (Nat.le_of_ble_eq_true rfl) (lv' := [some (.inr (30, 0)), none, some (.inl x2), some (.inl 0), some (.inl x4)]) rfl ?_
              refine v_aload_n C dX8_readsPicture_187 rfl ?_
              refine v_get C dX8_readsPicture_188 flX8_25 rfl (by decide) (by decide) (w := .inr (44, 0)) rfl ?_
              refine v_iload_n C dX8_readsPicture_191 rfl ?_
              refine v_bipush C dX8_readsPicture_192 (by decide) (by decide) ?_
              refine v_iadd C dX8_readsPicture_194 h.1 ?_
              replace h := h.2
              refine v_iconst C dX8_readsPicture_195 (by decide) ?_
              refine v_iload C dX8_readsPicture_196 rfl ?_
              refine v_imul C dX8_readsPicture_198 h.1 ?_
              replace h := h.2
              refine v_iadd C dX8_readsPicture_199 h.1 ?_
              replace h := h.2
              refine v_aload_n C dX8_readsPicture_200 rfl ?_
              refine v_get C dX8_readsPicture_201 flX8_87 rfl (by decide) (by decide) (w := .inl (M175 30 0 27)) rfl ?_
              refine v_iast C dX8_readsPicture_204 rfl h.1.1 h.1.2 ?_
              replace h := h.2
              refine v_nmM (fun M204 eM204 => ?_)
              replace h := h M204 eM204
              refine v_iinc C dX8_readsPicture_205 (by decide) rfl h.1 (lv' := [some (.inr (30, 0)), none, some (.inl x2), some (.inl 0), some (.inl (x4 + 1))]) rfl ?_
              replace h := h.2
              refine v_goto C dX8_readsPicture_208 (tgt := 112) (by decide) ?_
              refine v_weak [some (.inr (30, 0)), none, some (.inl x2), some (.inl 0), some (.inl (x4 + 1))] ⟨rfl, rfl, rfl, rfl, trivial⟩ ?_
              exact h
            · replace h := h.2 c178
              refine v_iconst C dX8_readsPicture_181 (by decide) ?_
              refine v_goto C dX8_readsPicture_182 (tgt := 186) (by decide) ?_
              refine v_istore_n C dX8_readsPicture_186 (by decide) (Nat.le_of_ble_eq_true rfl) (lv' := [some (.inr (30, 0)), none, some (.inl x2), some (.inl 1), some (.inl x4)]) rfl ?_
              refine v_aload_n C dX8_readsPicture_187 rfl ?_
              refine v_get C dX8_readsPicture_188 flX8_25 rfl (by decide) (by decide) (w := .inr (44, 0)) rfl ?_
              refine v_iload_n C dX8_readsPicture_191 rfl ?_
              refine v_bipush C dX8_readsPicture_192 (by decide) (by decide) ?_
              refine v_iadd C dX8_readsPicture_194 h.1 ?_
              replace h := h.2
              refine v_iconst C dX8_readsPicture_195 (by decide) ?_
              refine v_iload C dX8_readsPicture_196 rfl ?_
              refine v_imul C dX8_readsPicture_198 h.1 ?_
              replace h := h.2
              refine v_iadd C dX8_readsPicture_199 h.1 ?_
              replace h := h.2
              refine v_aload_n C dX8_readsPicture_200 rfl ?_
              refine v_get C dX8_readsPicture_201 flX8_87 rfl (by decide) (by decide) (w := .inl (M175 30 0 27)) rfl ?_
              refine v_iast C dX8_readsPicture_204 rfl h.1.1 h.1.2 ?_
              replace h := h.2
              refine v_nmM (fun M204 eM204 => ?_)
              replace h := h M204 eM204
              refine v_iinc C dX8_readsPicture_205 (by decide) rfl h.1 (lv' := [some (.inr (30, 0)), none, some (.inl x2), some (.inl 1), some (.inl (x4 + 1))]) rfl ?_
              replace h := h.2
              refine v_goto C dX8_readsPicture_208 (tgt := 112) (by decide) ?_
              refine v_weak [some (.inr (30, 0)), none, some (.inl x2), some (.inl 1), some (.inl (x4 + 1))] ⟨rfl, rfl, rfl, rfl, trivial⟩ ?_
              exact h
abbrev spX8_readsPicture (p : Int) (M : Mem) (K : Kont) : Prop := RdP M p ∧ RdQ M p (itP (rFilm M)) K
theorem ctX8_readsPicture : CtX8_readsPicture spX8_readsPicture := by
  refine ct_of (by decide) dmM (fun _ => Nat.le_of_ble_eq_true rfl) ?_
  intro κ p M K C oM h
  dsimp only [spX8_readsPicture] at h
  obtain ⟨⟨hp, hL, hf⟩, hk⟩ := h
  have n3 := hf.2.2.2.1
  have T := hf.1
  have e3 : rFilm M 3 0 0 = M 30 0 13 := rfl
  have e0 : rFilm M 0 0 0 = M 30 0 9 := rfl
  have itn : ∀ l, itP (rFilm M) l ≠ none → M 30 0 13 < 7 ∧ picOk (M 30 0 9) l := by
    intro l hl
    unfold itP at hl
    split at hl
    · rename_i c; exact c
    · exact absurd rfl hl
  generalize hn : M 30 0 13 = n at *
  -- it is not so
  have failV : ∀ (N : Mem) (y x : Int), y = 11 * n → n < 7 → 0 ≤ x → x ≤ 3 → FrP M N n → (∀ l e, Tk (M 31 0) (M 30 0 0) l p e → l.length ≤ 9 → itP (rFilm M) l ≠ none → False) →
      V κ 5 N 112 [some (.inr (30, 0)), none, some (.inl y), some (.inl 0), some (.inl x)] [] K := by
    intro N y x ey hn7 x0 x3 hF no
    have g := hF.g
    refine sgX8_readsPicture_112 C y 0 x ⟨fun _ => ⟨by omega, by omega, fun N1 e1 => ?_⟩, fun z => absurd rfl z⟩
    have g1 : N1 30 0 13 = n := by rw [e1, up3_r _ _ _ _ _ (by decide), g.1, hn]
    refine ⟨by omega, fun N2 e2 => ⟨Or.inl rfl, hk.no ?_ (fun ⟨l, e, a, b, c⟩ => no l e a b c)⟩⟩
    have h1 : AgI M N1 := by rw [e1]; exact (hF.u (by omega) x).i
    refine h1.tr (fun r i j hn => ?_)
    rw [e2]
    exact if_neg (fun z => by omega)
  have fin : ∀ (N N1 N2 : Mem) (y e0 : Int) (pre : List (Int × Int)) (k : Nat), 1 ≤ k → k ≤ 3 → y = 11 * n → n < 7 → FrP M N n → PT (M 31 0) (M 30 0 0) pre p e0 → N 30 0 28 = e0 → 0 ≤ e0 → PcS M N n pre k → (k = 3 ∨ lt (M 31 0) (M 30 0 0) e0 ≠ 44) → N1 = up3 N 44 0 (y + 3) k → N2 = up3 N1 30 0 13 (N1 30 0 13 + 1) → K (some 1) N2 := by
    intro N N1 N2 y e0 pre k k1 k3 ey hn7 hF hpt he hE hS hx e1 e2
    obtain ⟨s1, s2, s3, s4, s5⟩ := hS
    have g := hF.g
    have g1 : N1 30 0 13 = n := by rw [e1, up3_r _ _ _ _ _ (by decide), g.1, hn]
    have F1 : FrP M N1 n := by rw [e1]; exact hF.u (by omega) _
    have v44 : ∀ j, N2 44 0 j = if j = 11 * n + 3 then (k : Int) else N 44 0 j := by
      intro j
      rw [e2, up3_r _ _ _ _ _ (by decide), e1, ey]
      by_cases z : j = 11 * n + 3
      · rw [if_pos z, z, up3_s]
      · rw [if_neg z, up3_j _ _ _ _ _ z]
    have v30 : ∀ j, N2 30 0 j = if j = 13 then n + 1 else N 30 0 j := by
      intro j
      rw [e2]
      by_cases z : j = 13
      · rw [if_pos z, z, up3_s, g1]
      · rw [if_neg z, up3_j _ _ _ _ _ z, e1, up3_r _ _ _ _ _ (by decide)]
    have hB : AgI M N2 := by
      refine F1.i.tr (fun r i j hn => ?_)
      rw [e2]
      exact if_neg (fun z => by omega)
    have v28 : N2 30 0 28 = e0 := by rw [v30, if_neg (by decide), he]
    refine hk 1 N2 (Or.inr rfl) hB (fun _ => by omega) (fun _ h59 => ?_) (fun ⟨l, e, ht, h9, hi⟩ => ⟨rfl, ?_⟩)
    · rw [v28] at h59 ⊢
      have tk := PT_tk _ _ _ hpt h59
      have pok : rFilm M 3 0 0 < 7 ∧ picOk (rFilm M 0 0 0) pre := ⟨by omega, by omega, by omega, short_mem.mpr tk.2, by omega, by omega, by omega, vok_of 4 3 (fun j hj => s3 j (by omega))⟩
      refine ⟨pre, _, tk.1, by omega, if_pos pok, ?_⟩
      rw [e3]
      have pf := pic_film (rFilm M) (n := n) (l := pre) ⟨by omega, by omega, by omega⟩
      obtain ⟨p1, p2, p3, p4⟩ := pf
      have o30 : ∀ j, j = 9 ∨ j = 10 ∨ j = 11 → N2 30 0 j = M 30 0 j := fun j hj => by rw [v30, if_neg (by omega)]; exact hF 30 0 j (by omega) (by omega)
      have o42 : N2 42 0 = M 42 0 := by funext j; rw [e2, up3_r _ _ _ _ _ (by decide), e1, up3_r _ _ _ _ _ (by decide)]; exact hF 42 0 j (by omega) (by omega)
      have hlen : ((pre.length - 3) / 2 : Nat) = k := by omega
      refine ⟨?_, ?_, ?_, ?_, fun w a b => ?_, fun s a b => ?_, fun q a b => ?_⟩
      · rw [p1 0 0 0 (by decide) (Or.inl (by decide))]; exact (o30 9 (by omega)).symm
      · rw [p1 1 0 0 (by decide) (Or.inl (by decide))]; exact (o30 10 (by omega)).symm
      · rw [p1 2 0 0 (by decide) (Or.inl (by decide))]; exact (o30 11 (by omega)).symm
      · show n + 1 = N2 30 0 13
        rw [v30, if_pos rfl]
      · rw [p1 4 w 0 (by decide) (Or.inl (by decide))]; rfl
      · rw [p1 5 s 0 (by decide) (Or.inl (by decide)), p1 6 s 0 (by decide) (Or.inl (by decide)), p1 7 s 0 (by decide) (Or.inl (by decide))]
        simp [rFilm, o42]
      · have b' : q < n + 1 := b
        by_cases z : q = n
        · subst z
          rw [p2.1, p2.2.1, p2.2.2.1, p2.2.2.2, p3, hlen]
          refine ⟨?_, ?_, ?_, ?_, ?_, fun v v0 v1 => ?_⟩
          · show _ = N2 44 0 (11 * q)
            rw [v44, if_neg (by omega)]; exact s4.1.symm
          · show _ = N2 44 0 (11 * q + 1)
            rw [v44, if_neg (by omega)]; exact s4.2.1.symm
          · show _ = N2 44 0 (11 * q + 2)
            rw [v44, if_neg (by omega)]; exact s4.2.2.1.symm
          · show _ = N2 44 0 (11 * q + 3)
            rw [v44, if_pos rfl]
          · show _ = N2 44 0 (11 * q + 4)
            rw [v44, if_neg (by omega)]; exact s4.2.2.2.symm
          · have a4 := p4 v v0 (by omega)
            have a5 := s5 v.toNat (by omega)
            rw [a4.1, a4.2]
            refine ⟨?_, ?_⟩
            · show _ = N2 44 0 (11 * q + 5 + 2 * v)
              rw [v44, if_neg (by omega), ← a5.1, oi_nat v0]
            · show _ = N2 44 0 (11 * q + 6 + 2 * v)
              rw [v44, if_neg (by omega), ← a5.2, oi_nat v0]
        · have wq := wf_p hf (p := q) a (by omega)
          have out : ∀ j, 11 * q ≤ j → j < 11 * q + 11 → N2 44 0 j = M 44 0 j := fun j h1 h2 => by
            rw [v44, if_neg (by omega)]
            exact hF 44 0 j (by omega) (by omega)
          have zz : ∀ t b, t ≠ 3 → sFC (avs (sFP (rFilm M) n (aN pre 0) (aN pre 1) (aN pre 2)) n pre 4 3) (n + 1) t q b = rFilm M t q b := fun t b ht => p1 t q b ht (Or.inr z)
          rw [zz 8 0 (by decide), zz 9 0 (by decide), zz 10 0 (by decide), zz 11 0 (by decide), zz 12 0 (by decide)]
          refine ⟨?_, ?_, ?_, ?_, ?_, fun v v0 v1 => ?_⟩
          · exact (out (11 * q) (by omega) (by omega)).symm
          · exact (out (11 * q + 1) (by omega) (by omega)).symm
          · exact (out (11 * q + 2) (by omega) (by omega)).symm
          · exact (out (11 * q + 3) (by omega) (by omega)).symm
          · exact (out (11 * q + 4) (by omega) (by omega)).symm
          · rw [zz 13 v (by decide), zz 14 v (by decide)]
            exact ⟨(out (11 * q + 5 + 2 * v) (by omega) (by omega)).symm, (out (11 * q + 6 + 2 * v) (by omega) (by omega)).symm⟩
    · rw [v28]
      have c := itn l hi
      by_cases z : pre.length = l.length
      · exact (acc_end ht (short_mem.mp c.2.2.2.1) hpt z).1
      · have nx := acc_next ht (short_mem.mp c.2.2.2.1) hpt z
        rcases hx with y | y
        · omega
        · exact absurd nx.1 y
  have loop : ∀ (f k : Nat) (N : Mem) (y e0 : Int) (pre : List (Int × Int)), f + k = 3 → y = 11 * n → n < 7 → FrP M N n → PT (M 31 0) (M 30 0 0) pre p e0 → N 30 0 28 = e0 → (0 ≤ e0 ∧ e0 ≤ M 30 0 0) → PcS M N n pre k →
      V κ 5 N 112 [some (.inr (30, 0)), none, some (.inl y), some (.inl 1), some (.inl (k : Int))] [] K := by
    intro f
    induction f with
    | zero =>
      intro k N y e0 pre hfk ey hn7 hF hpt he hE hS
      have g := hF.g
      refine sgX8_readsPicture_112 C y 1 k ⟨fun z => absurd z (by decide), fun _ => ⟨fun _ => ⟨by omega, by omega, fun N1 e1 => ?_⟩, fun z => absurd (by omega) z⟩⟩
      have g1 : N1 30 0 13 = n := by rw [e1, up3_r _ _ _ _ _ (by decide), g.1, hn]
      exact ⟨by omega, fun N2 e2 => ⟨Or.inr rfl, fin N N1 N2 y e0 pre k (by omega) (by omega) ey hn7 hF hpt he hE.1 hS (Or.inl (by omega)) e1 e2⟩⟩
    | succ f ih =>
      intro k N y e0 pre hfk ey hn7 hF hpt he hE hS
      have g := hF.g
      have tx := hF.i.tx
      have hlt : lt (N 31 0) (N 30 0 0) (N 30 0 28) = lt (M 31 0) (M 30 0 0) e0 := by rw [tx.1, tx.2, he]
      refine (fun (body : (k = 0 ∨ lt (M 31 0) (M 30 0 0) e0 = 44) → _) => sgX8_readsPicture_112 C y 1 k ⟨fun z => absurd z (by decide), fun _ => ⟨fun c => absurd c (by omega), fun c => ⟨fun c0 => body (Or.inl (by omega)), fun c0 => ⟨⟨by omega, by omega⟩, fun c1 => ⟨by omega, by omega, fun N1 e1 => ?_⟩, fun c1 => body (Or.inr (by rw [← hlt]; exact Classical.byContradiction c1))⟩⟩⟩⟩) ?_
      · have g1 : N1 30 0 13 = n := by rw [e1, up3_r _ _ _ _ _ (by decide), g.1, hn]
        exact ⟨by omega, fun N2 e2 => ⟨Or.inr rfl, fin N N1 N2 y e0 pre k (by omega) (by omega) ey hn7 hF hpt he hE.1 hS (Or.inr (by rw [← hlt]; exact c1)) e1 e2⟩⟩
      · intro hb
        obtain ⟨s1, s2, s3, s4, s5⟩ := hS
        -- an item that is so goes on here
        have acc1 : ∀ l e, Tk (M 31 0) (M 30 0 0) l p e → l.length ≤ 9 → itP (rFilm M) l ≠ none → lt (M 31 0) (M 30 0 0) e0 = 44 ∧ 0 < dgc (M 31 0) (M 30 0 0) 2 (e0 + 1) ∧ 1 ≤ dgv (M 31 0) (M 30 0 0) 2 (e0 + 1) 0 ∧ dgv (M 31 0) (M 30 0 0) 2 (e0 + 1) 0 ≤ 30 := by
          intro l e ht h9 hi
          have c := itn l hi
          have sh := short_mem.mp c.2.2.2.1
          have ne : pre.length ≠ l.length := by
            intro z
            have a := acc_end ht sh hpt z
            rcases hb with y1 | y1
            · have := c.2.1
              omega
            · rw [y1] at a
              exact absurd a.1 (by decide)
          have a := acc_next ht sh hpt ne
          have b := vok_at 4 3 c.2.2.2.2.2.2.2 k (by omega) (by have := c.2.2.1; omega)
          rw [s1] at a
          exact ⟨a.1, a.2.1, by omega, by omega⟩
        refine more_ok (M := M) (k := 2) hF.i hL (by omega) rfl he hE (fun c3 => ?_) (fun c3 N2 hA2 hv2 he2 => ⟨fun c4 => ?_, fun c4 => ?_⟩)
        · refine ⟨by omega, by omega, by omega, by omega, fun N3 e3 => ⟨fun _ => ⟨by omega, by omega, by omega, by omega, fun N4 e4 => ⟨by omega, failV N4 y _ ey hn7 (by omega) (by omega) ?_ (fun l e a b c => c3 (acc1 l e a b c).1)⟩⟩, fun z => absurd rfl z⟩⟩
          rw [e4, e3]
          exact (hF.u (by omega) _).u (by omega) _
        · have lin := lt_in c3 (by decide)
          have hc1 := dgc_rng (M 31 0) (M 30 0 0) 2 (e0 + 1)
          have pt1 := PT_snoc _ _ _ hpt c3 c4.1
          have F2 := hF.v hA2
          refine ⟨by omega, by omega, by omega, by omega, fun N3 e3 => ⟨fun z => absurd z (by decide), fun _ => ?_⟩⟩
          have F3 : FrP M N3 n := by rw [e3]; exact F2.u (by omega) _
          have he3 : N3 30 0 28 = e0 + 1 + dgc (M 31 0) (M 30 0 0) 2 (e0 + 1) := by rw [e3, up3_r _ _ _ _ _ (by decide), he2]
          have acc2 : ∀ l e, Tk (M 31 0) (M 30 0 0) l p e → l.length ≤ 9 → itP (rFilm M) l ≠ none → lt (M 31 0) (M 30 0 0) (e0 + 1 + dgc (M 31 0) (M 30 0 0) 2 (e0 + 1)) = 44 ∧ 0 < dgc (M 31 0) (M 30 0 0) 2 (e0 + 1 + dgc (M 31 0) (M 30 0 0) 2 (e0 + 1) + 1) ∧ 1 ≤ dgv (M 31 0) (M 30 0 0) 2 (e0 + 1 + dgc (M 31 0) (M 30 0 0) 2 (e0 + 1) + 1) 0 ∧ dgv (M 31 0) (M 30 0 0) 2 (e0 + 1 + dgc (M 31 0) (M 30 0 0) 2 (e0 + 1) + 1) 0 ≤ 99 := by
            intro l e ht h9 hi
            have c := itn l hi
            have sh := short_mem.mp c.2.2.2.1
            have ne : (pre ++ [(dgv (M 31 0) (M 30 0 0) 2 (e0 + 1) 0, dgc (M 31 0) (M 30 0 0) 2 (e0 + 1))]).length ≠ l.length := by
              have := c.2.2.1
              simp
              omega
            have a := acc_next ht sh pt1 ne
            have ln : (pre ++ [(dgv (M 31 0) (M 30 0 0) 2 (e0 + 1) 0, dgc (M 31 0) (M 30 0 0) 2 (e0 + 1))]).length = 3 + 2 * k + 1 := by simp; omega
            rw [ln] at a
            have b := vok_at 4 3 c.2.2.2.2.2.2.2 k (by omega) (by omega)
            exact ⟨a.1, a.2.1, by omega, by omega⟩
          refine more_ok (M := M) (k := 2) F3.i hL (by omega) rfl he3 (by omega) (fun c5 => ?_) (fun c5 N4 hA4 hv4 he4 => ⟨fun c6 => ?_, fun c6 => ?_⟩)
          · refine ⟨fun _ => ⟨by omega, by omega, by omega, by omega, fun N4 e4 => ⟨by omega, failV N4 y _ ey hn7 (by omega) (by omega) ?_ (fun l e a b c => c5 (acc2 l e a b c).1)⟩⟩, fun z => absurd rfl z⟩
            rw [e4]
            exact F3.u (by omega) _
          · refine ⟨fun z => absurd z (by decide), fun _ => ⟨by omega, by omega, by omega, by omega, fun N5 e5 => ⟨by omega, ?_⟩⟩⟩
            have lin2 := lt_in c5 (by decide)
            have hc2 := dgc_rng (M 31 0) (M 30 0 0) 2 (e0 + 1 + dgc (M 31 0) (M 30 0 0) 2 (e0 + 1) + 1)
            have pt2 := PT_snoc _ _ _ pt1 c5 c6.1
            have F5 : FrP M N5 n := by rw [e5]; exact (F3.v hA4).u (by omega) _
            have he5 : N5 30 0 28 = e0 + 1 + dgc (M 31 0) (M 30 0 0) 2 (e0 + 1) + 1 + dgc (M 31 0) (M 30 0 0) 2 (e0 + 1 + dgc (M 31 0) (M 30 0 0) 2 (e0 + 1) + 1) := by rw [e5, up3_r _ _ _ _ _ (by decide), he4]
            have v44 : ∀ j, N5 44 0 j = if j = 11 * n + 6 + 2 * k then dgv (M 31 0) (M 30 0 0) 2 (e0 + 1 + dgc (M 31 0) (M 30 0 0) 2 (e0 + 1) + 1) 0 else if j = 11 * n + 5 + 2 * k then dgv (M 31 0) (M 30 0 0) 2 (e0 + 1) 0 else N 44 0 j := by
              intro j
              rw [e5, hv4, ey]
              by_cases z : j = 11 * n + 6 + 2 * k
              · rw [if_pos z, z, up3_s]
              · rw [if_neg z, up3_j _ _ _ _ _ z, hA4 44 0 j (by omega), e3, hv2, ey]
                by_cases z2 : j = 11 * n + 5 + 2 * k
                · rw [if_pos z2, z2, up3_s]
                · rw [if_neg z2, up3_j _ _ _ _ _ z2, hA2 44 0 j (by omega)]
            have ek : ((k + 1 : Nat) : Int) = (k : Int) + 1 := by omega
            rw [← ek]
            have ln1 : (pre ++ [(dgv (M 31 0) (M 30 0 0) 2 (e0 + 1) 0, dgc (M 31 0) (M 30 0 0) 2 (e0 + 1))]).length = 3 + 2 * k + 1 := by simp; omega
            have ap : ∀ j, j < 3 + 2 * k → aN ((pre ++ [(dgv (M 31 0) (M 30 0 0) 2 (e0 + 1) 0, dgc (M 31 0) (M 30 0 0) 2 (e0 + 1))]) ++ [(dgv (M 31 0) (M 30 0 0) 2 (e0 + 1 + dgc (M 31 0) (M 30 0 0) 2 (e0 + 1) + 1) 0, dgc (M 31 0) (M 30 0 0) 2 (e0 + 1 + dgc (M 31 0) (M 30 0 0) 2 (e0 + 1) + 1))]) j = aN pre j := by
              intro j hj
              rw [(aN_app (by omega)).1, (aN_app (by omega)).1]
            have ap1 : aN ((pre ++ [(dgv (M 31 0) (M 30 0 0) 2 (e0 + 1) 0, dgc (M 31 0) (M 30 0 0) 2 (e0 + 1))]) ++ [(dgv (M 31 0) (M 30 0 0) 2 (e0 + 1 + dgc (M 31 0) (M 30 0 0) 2 (e0 + 1) + 1) 0, dgc (M 31 0) (M 30 0 0) 2 (e0 + 1 + dgc (M 31 0) (M 30 0 0) 2 (e0 + 1) + 1))]) (3 + 2 * k) = dgv (M 31 0) (M 30 0 0) 2 (e0 + 1) 0 := by
              rw [(aN_app (by omega)).1, ← s1, (aN_mid (a := pre) (b := [])).1]
            have ap2 : aN ((pre ++ [(dgv (M 31 0) (M 30 0 0) 2 (e0 + 1) 0, dgc (M 31 0) (M 30 0 0) 2 (e0 + 1))]) ++ [(dgv (M 31 0) (M 30 0 0) 2 (e0 + 1 + dgc (M 31 0) (M 30 0 0) 2 (e0 + 1) + 1) 0, dgc (M 31 0) (M 30 0 0) 2 (e0 + 1 + dgc (M 31 0) (M 30 0 0) 2 (e0 + 1) + 1))]) (3 + 2 * k + 1) = dgv (M 31 0) (M 30 0 0) 2 (e0 + 1 + dgc (M 31 0) (M 30 0 0) 2 (e0 + 1) + 1) 0 := by
              rw [← ln1, (aN_mid (b := [])).1]
            refine ih (k + 1) N5 y _ _ (by omega) ey hn7 F5 pt2 he5 (by omega) ⟨by simp; omega, ?_, fun j hj => ?_, ?_, fun j hj => ?_⟩
            · rw [ap 0 (by omega), ap 1 (by omega), ap 2 (by omega)]
              exact s2
            · by_cases z : j = k
              · rw [z, ap1, ap2]
                exact ⟨c4.2.1, c4.2.2, c6.2.1, c6.2.2⟩
              · rw [ap (3 + 2 * j) (by omega), ap (3 + 2 * j + 1) (by omega)]
                exact s3 j (by omega)
            · rw [ap 0 (by omega), ap 1 (by omega), ap 2 (by omega), v44, v44, v44, v44, if_neg (by omega), if_neg (by omega), if_neg (by omega), if_neg (by omega), if_neg (by omega), if_neg (by omega), if_neg (by omega), if_neg (by omega)]
              exact s4
            · by_cases z : j = k
              · rw [z, ap1, ap2, v44, v44, if_neg (by omega), if_pos rfl, if_pos rfl]
                exact ⟨rfl, rfl⟩
              · rw [ap (3 + 2 * j) (by omega), ap (3 + 2 * j + 1) (by omega), v44, v44, if_neg (by omega), if_neg (by omega), if_neg (by omega), if_neg (by omega)]
                exact s5 j (by omega)
          · refine ⟨fun _ => ⟨by omega, by omega, by omega, by omega, fun N5 e5 => ⟨by omega, failV N5 y _ ey hn7 (by omega) (by omega) ?_ (fun l e a b c => c6 (acc2 l e a b c).2)⟩⟩, fun z => absurd rfl z⟩
            rw [e5]
            exact (F3.v hA4).u (by omega) _
        · refine ⟨by omega, by omega, by omega, by omega, fun N3 e3 => ⟨fun _ => ⟨by omega, by omega, by omega, by omega, fun N4 e4 => ⟨by omega, failV N4 y _ ey hn7 (by omega) (by omega) ?_ (fun l e a b c => c4 (acc1 l e a b c).2)⟩⟩, fun z => absurd rfl z⟩⟩
          rw [e4, e3]
          exact ((hF.v hA2).u (by omega) _).u (by omega) _
  have hc0 := dgc_rng (M 31 0) (M 30 0 0) 2 p
  have hv0 := dgv_rng (M 31 0) (M 30 0 0) 2 p 0 0 (by omega) (by omega)
  have one : ∀ l e, Tk (M 31 0) (M 30 0 0) l p e → itP (rFilm M) l ≠ none → 0 < dgc (M 31 0) (M 30 0 0) 2 p ∧ dgv (M 31 0) (M 30 0 0) 2 p 0 < M 30 0 9 := by
    intro l e ht hi
    have c := (itn l hi).2
    have f := acc_first ht ((short_iff l).mp c.2.2.1 0 (by have := c.1; omega))
    exact ⟨f.1, by rw [f.2.1]; exact c.2.2.2.1⟩
  refine sgX8_readsPicture_0 C p ⟨fun c => hk.no AgI.rf (fun ⟨l, e, ht, h9, hi⟩ => by have := itn l hi; omega), fun c => ⟨by omega, num_ok (M := M) (k := 2) AgI.rf hL (by omega) rfl hp (fun N hA hv he => ⟨fun c2 => ?_, fun c2 => ?_⟩)⟩⟩
  · have F0 : FrP M N n := FrP.rf.v hA
    have g0 := F0.g
    have pt0 := PT_one (X := M 31 0) (L := M 30 0 0) (p := p) c2.1
    refine ⟨fun _ => ⟨by omega, fun y ey => ⟨by omega, fun N1 e1 => ?_⟩⟩, fun z => absurd (by decide) z⟩
    have ey' : y = 11 * n := by rw [ey, g0.1, hn]
    have F1 : FrP M N1 n := by rw [e1]; exact F0.u (by omega) _
    have he1 : N1 30 0 28 = p + dgc (M 31 0) (M 30 0 0) 2 p := by rw [e1, up3_r _ _ _ _ _ (by decide), he]
    have acc1 : ∀ l e, Tk (M 31 0) (M 30 0 0) l p e → itP (rFilm M) l ≠ none → lt (M 31 0) (M 30 0 0) (p + dgc (M 31 0) (M 30 0 0) 2 p) = 44 ∧ 0 < dgc (M 31 0) (M 30 0 0) 2 (p + dgc (M 31 0) (M 30 0 0) 2 p + 1) ∧ dgv (M 31 0) (M 30 0 0) 2 (p + dgc (M 31 0) (M 30 0 0) 2 p + 1) 0 ≤ 20 := by
      intro l e ht hi
      have c := (itn l hi).2
      have a := acc_next ht (short_mem.mp c.2.2.1) pt0 (by have := c.1; simp; omega)
      exact ⟨a.1, a.2.1, by rw [a.2.2.1]; exact c.2.2.2.2.1⟩
    refine more_ok (M := M) (k := 2) F1.i hL (by omega) rfl he1 (by omega) (fun c3 => ?_) (fun c3 N2 hA2 hv2 he2 => ⟨fun c4 => ?_, fun c4 => ?_⟩)
    · refine ⟨by omega, by omega, fun N3 e3 => ⟨fun _ => ⟨by omega, by omega, fun N4 e4 => ⟨by omega, by omega, fun N5 e5 => failV N5 y 0 ey' (by omega) (by omega) (by omega) ?_ (fun l e a b c => c3 (acc1 l e a c).1)⟩⟩, fun z => absurd rfl z⟩⟩
      rw [e5, e4, e3]
      exact ((F1.u (by omega) _).u (by omega) _).u (by omega) _
    · have lin := lt_in c3 (by decide)
      have hc1 := dgc_rng (M 31 0) (M 30 0 0) 2 (p + dgc (M 31 0) (M 30 0 0) 2 p + 1)
      have pt1 := PT_snoc _ _ _ pt0 c3 c4.1
      have F2 := F1.v hA2
      refine ⟨by omega, by omega, fun N3 e3 => ⟨fun z => absurd z (by decide), fun _ => ?_⟩⟩
      have F3 : FrP M N3 n := by rw [e3]; exact F2.u (by omega) _
      have he3 : N3 30 0 28 = p + dgc (M 31 0) (M 30 0 0) 2 p + 1 + dgc (M 31 0) (M 30 0 0) 2 (p + dgc (M 31 0) (M 30 0 0) 2 p + 1) := by rw [e3, up3_r _ _ _ _ _ (by decide), he2]
      have acc2 : ∀ l e, Tk (M 31 0) (M 30 0 0) l p e → itP (rFilm M) l ≠ none → lt (M 31 0) (M 30 0 0) (p + dgc (M 31 0) (M 30 0 0) 2 p + 1 + dgc (M 31 0) (M 30 0 0) 2 (p + dgc (M 31 0) (M 30 0 0) 2 p + 1)) = 44 ∧ 0 < dgc (M 31 0) (M 30 0 0) 2 (p + dgc (M 31 0) (M 30 0 0) 2 p + 1 + dgc (M 31 0) (M 30 0 0) 2 (p + dgc (M 31 0) (M 30 0 0) 2 p + 1) + 1) ∧ dgv (M 31 0) (M 30 0 0) 2 (p + dgc (M 31 0) (M 30 0 0) 2 p + 1 + dgc (M 31 0) (M 30 0 0) 2 (p + dgc (M 31 0) (M 30 0 0) 2 p + 1) + 1) 0 ≤ 20 := by
        intro l e ht hi
        have c := (itn l hi).2
        have a := acc_next ht (short_mem.mp c.2.2.1) pt1 (by have := c.1; simp; omega)
        exact ⟨a.1, a.2.1, by rw [a.2.2.1]; exact c.2.2.2.2.2.1⟩
      have hv2' := dgv_rng (M 31 0) (M 30 0 0) 2 (p + dgc (M 31 0) (M 30 0 0) 2 p + 1) 0 0 (by omega) (by omega)
      refine more_ok (M := M) (k := 2) F3.i hL (by omega) rfl he3 (by omega) (fun c5 => ?_) (fun c5 N4 hA4 hv4 he4 => ⟨fun c6 => ?_, fun c6 => ?_⟩)
      · refine ⟨fun _ => ⟨by omega, by omega, fun N4 e4 => ⟨by omega, by omega, fun N5 e5 => failV N5 y 0 ey' (by omega) (by omega) (by omega) ?_ (fun l e a b c => c5 (acc2 l e a c).1)⟩⟩, fun z => absurd rfl z⟩
        rw [e5, e4]
        exact (F3.u (by omega) _).u (by omega) _
      · have lin2 := lt_in c5 (by decide)
        have hc2 := dgc_rng (M 31 0) (M 30 0 0) 2 (p + dgc (M 31 0) (M 30 0 0) 2 p + 1 + dgc (M 31 0) (M 30 0 0) 2 (p + dgc (M 31 0) (M 30 0 0) 2 p + 1) + 1)
        have pt2 := PT_snoc _ _ _ pt1 c5 c6.1
        refine ⟨fun z => absurd z (by decide), fun _ => ⟨by omega, by omega, fun N5 e5 => ⟨by omega, by omega, fun N6 e6 => ?_⟩⟩⟩
        have F6 : FrP M N6 n := by rw [e6, e5]; exact ((F3.v hA4).u (by omega) _).u (by omega) _
        have he6 : N6 30 0 28 = p + dgc (M 31 0) (M 30 0 0) 2 p + 1 + dgc (M 31 0) (M 30 0 0) 2 (p + dgc (M 31 0) (M 30 0 0) 2 p + 1) + 1 + dgc (M 31 0) (M 30 0 0) 2 (p + dgc (M 31 0) (M 30 0 0) 2 p + 1 + dgc (M 31 0) (M 30 0 0) 2 (p + dgc (M 31 0) (M 30 0 0) 2 p + 1) + 1) := by rw [e6, up3_r _ _ _ _ _ (by decide), e5, up3_r _ _ _ _ _ (by decide), he4]
        have v44 : N6 44 0 (11 * n) = dgv (M 31 0) (M 30 0 0) 2 p 0 ∧ N6 44 0 (11 * n + 1) = dgv (M 31 0) (M 30 0 0) 2 (p + dgc (M 31 0) (M 30 0 0) 2 p + 1) 0 ∧ N6 44 0 (11 * n + 2) = dgv (M 31 0) (M 30 0 0) 2 (p + dgc (M 31 0) (M 30 0 0) 2 p + 1 + dgc (M 31 0) (M 30 0 0) 2 (p + dgc (M 31 0) (M 30 0 0) 2 p + 1) + 1) 0 ∧ N6 44 0 (11 * n + 4) = -4 := by
          refine ⟨?_, ?_, ?_, ?_⟩
          · rw [e6, up3_j _ _ _ _ _ (by omega), e5, up3_j _ _ _ _ _ (by omega), hA4 44 0 _ (by omega), e3, up3_j _ _ _ _ _ (by omega), hA2 44 0 _ (by omega), e1, ey', up3_s, hv]
          · rw [e6, up3_j _ _ _ _ _ (by omega), e5, up3_j _ _ _ _ _ (by omega), hA4 44 0 _ (by omega), e3, ey', up3_s, hv2]
          · rw [e6, up3_j _ _ _ _ _ (by omega), e5, ey', up3_s, hv4]
          · rw [e6, ey', up3_s]
        exact loop 3 0 N6 y _ _ (by omega) ey' (by omega) F6 pt2 he6 (by omega) ⟨rfl, ⟨by show dgv (M 31 0) (M 30 0 0) 2 p 0 < _; omega, c4.2.2, c6.2.2⟩, fun j hj => by omega, v44, fun j hj => by omega⟩
      · refine ⟨fun _ => ⟨by omega, by omega, fun N5 e5 => ⟨by omega, by omega, fun N6 e6 => failV N6 y 0 ey' (by omega) (by omega) (by omega) ?_ (fun l e a b c => ?_)⟩⟩, fun z => absurd rfl z⟩
        · rw [e6, e5]
          exact ((F3.v hA4).u (by omega) _).u (by omega) _
        · have a2 := acc2 l e a c
          have := dgv_rng (M 31 0) (M 30 0 0) 2 (p + dgc (M 31 0) (M 30 0 0) 2 p + 1 + dgc (M 31 0) (M 30 0 0) 2 (p + dgc (M 31 0) (M 30 0 0) 2 p + 1) + 1) 0 0 (by omega) (by omega)
          exact c6 ⟨a2.2.1, this.1, a2.2.2⟩
    · refine ⟨by omega, by omega, fun N3 e3 => ⟨fun _ => ⟨by omega, by omega, fun N4 e4 => ⟨by omega, by omega, fun N5 e5 => failV N5 y 0 ey' (by omega) (by omega) (by omega) ?_ (fun l e a b c => ?_)⟩⟩, fun z => absurd rfl z⟩⟩
      · rw [e5, e4, e3]
        exact (((F1.v hA2).u (by omega) _).u (by omega) _).u (by omega) _
      · have a2 := acc1 l e a c
        have := dgv_rng (M 31 0) (M 30 0 0) 2 (p + dgc (M 31 0) (M 30 0 0) 2 p + 1) 0 0 (by omega) (by omega)
        exact c4 ⟨a2.2.1, this.1, a2.2.2⟩
  · refine ⟨fun z => absurd rfl z, fun _ => hk.no hA.b (fun ⟨l, e, ht, h9, hi⟩ => ?_)⟩
    have o := one l e ht hi
    exact c2 ⟨o.1, hv0.1, by omega⟩
