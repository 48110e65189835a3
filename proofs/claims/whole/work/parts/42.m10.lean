/-! ===== the Model: the greedy plan ===== -/
/-- as AgS, but the plan is the same on the seven pictures alone -/
def AgQ (M M' : Mem) : Prop := ∀ r i j, ¬ (r = 42 ∨ r = 44 ∨ (45 ≤ r ∧ r ≤ 53) ∨ (r = 30 ∧ (j = 9 ∨ j = 10 ∨ j = 11 ∨ j = 13 ∨ j = 27 ∨ j = 28))) → M' r i j = M r i j
theorem AgQ.rf {M : Mem} : AgQ M M := fun _ _ _ _ => rfl
theorem AgQ.tr {M M' M2 : Mem} (h : AgQ M M') (h2 : AgQ M' M2) : AgQ M M2 := fun r i j hn => (h2 r i j hn).trans (h r i j hn)
theorem AgQ.of {M M' : Mem} (h : ∀ r, ¬ (45 ≤ r ∧ r ≤ 53) → M' r = M r) : AgQ M M' := fun r i j hn => by rw [h r (by omega)]
theorem AgQ.film {M M' : Mem} (h : AgQ M M') : mFilm M' = mFilm M := mFilm_eq (fun j hj => h 30 0 j (by omega)) (fun r hr => by funext j; exact h r 0 j (by omega))
theorem AgQ.inv {M M' : Mem} (h : AgQ M M') (he : PlEq (M 45 0) (M 46 0) (M' 45 0) (M' 46 0)) (hI : InvM M) : InvM M' :=
  ⟨by rw [h 30 0 0 (by omega)]; exact hI.1, by rw [h.film]; exact hI.2.1, by rw [h.film]; exact PlK_eq he hI.2.2⟩
theorem AgQ.ch {M M' : Mem} (h : AgQ M M') (he : PlEq (M 45 0) (M 46 0) (M' 45 0) (M' 46 0)) : ChM M M' (mFilm M) (M 45 0) (M 46 0) :=
  ⟨fun r hr => by funext i j; exact h r i j (by omega), h 30 0 0 (by omega), by funext j; exact h 31 0 j (by omega), by rw [h.film]; exact FEq.rf, he⟩
/-- how many versions are still looked at -/
def muN (ver : Int → Int) (pz : Int → Bool) : Int := sumN (fun k => if ver (k / 3) = -4 ∧ pz k = false then 1 else 0) 21
theorem sumN_lt {f g : Int → Int} {k0 : Int} (h0 : 0 ≤ k0) (hl : f k0 < g k0) (h : ∀ k, f k ≤ g k) : ∀ n : Nat, sumN f n ≤ sumN g n ∧ (k0 < n → sumN f n < sumN g n) := by
  intro n
  induction n with
  | zero => exact ⟨Int.le_refl _, fun z => by omega⟩
  | succ n ih =>
    have := h n
    show sumN f n + f n ≤ sumN g n + g n ∧ (k0 < ((n + 1 : Nat) : Int) → sumN f n + f n < sumN g n + g n)
    refine ⟨by omega, fun z => ?_⟩
    by_cases e : k0 = n
    · rw [e] at hl
      omega
    · have := ih.2 (by omega)
      omega
theorem mu_rng (ver : Int → Int) (pz : Int → Bool) : 0 ≤ muN ver pz ∧ muN ver pz ≤ 21 := by
  have := sum_rng (f := fun k => if ver (k / 3) = -4 ∧ pz k = false then (1 : Int) else 0) (B := 1) (fun k => by split <;> omega) 21
  unfold muN
  omega
theorem mu_pass {ver : Int → Int} {pz : Int → Bool} {p v : Int} (hp : 0 ≤ p ∧ p < 7) (hv : 0 ≤ v ∧ v < 3) (h1 : ver p = -4) (h2 : pz (p * 3 + v) = false) : muN ver (setB pz (p * 3 + v)) < muN ver pz := by
  have e : (p * 3 + v) / 3 = p := by omega
  refine (sumN_lt (k0 := p * 3 + v) (by omega) ?_ (fun k => ?_) 21).2 (by omega)
  · skip
    have a : ¬ (ver p = -4 ∧ setB pz (p * 3 + v) (p * 3 + v) = false) := fun z => by have := z.2; simp [setB] at this
    rw [e, if_neg a, if_pos ⟨h1, h2⟩]
    omega
  · skip
    by_cases c : ver (k / 3) = -4 ∧ pz k = false
    · rw [if_pos c]
      split <;> omega
    · have a : ¬ (ver (k / 3) = -4 ∧ setB pz (p * 3 + v) k = false) := fun z => c ⟨z.1, by have := z.2; simp [setB] at this; exact this.1⟩
      rw [if_neg c, if_neg a]
      omega
theorem mu_put {ver : Int → Int} {pz : Int → Bool} {p v : Int} (hp : 0 ≤ p ∧ p < 7) (hv : 0 ≤ v ∧ v < 3) (h1 : ver p = -4) (h2 : pz (p * 3 + v) = false) : muN (setP ver p v) pz < muN ver pz := by
  have e : (p * 3 + v) / 3 = p := by omega
  refine (sumN_lt (k0 := p * 3 + v) (by omega) ?_ (fun k => ?_) 21).2 (by omega)
  · skip
    have a : ¬ (setP ver p v p = -4 ∧ pz (p * 3 + v) = false) := fun z => by have := z.1; simp [setP] at this; omega
    rw [e, if_neg a, if_pos ⟨h1, h2⟩]
    omega
  · skip
    by_cases c : ver (k / 3) = -4 ∧ pz k = false
    · rw [if_pos c]
      split <;> omega
    · have a : ¬ (setP ver p v (k / 3) = -4 ∧ pz k = false) := by
        intro z
        refine c ⟨?_, z.2⟩
        have q := z.1
        unfold setP at q
        by_cases e2 : k / 3 = p
        · rw [if_pos e2] at q
          omega
        · rw [if_neg e2] at q
          exact q
      rw [if_neg c, if_neg a]
      omega
theorem grd_z {F : Film} (hf : WFf F) {S Q ver sta : Int → Int} {pz : Int → Bool} {s : gSt} (h : grOk F S Q ver sta pz s) : (s.1 = 0 ∧ cod s = -4) ∨ (s.1 ≠ 0 ∧ cod s = 300 * s.2.2.1 + 100 * s.2.2.2.1 + s.2.2.2.2 ∧ (0 ≤ s.2.2.1 ∧ s.2.2.1 < F 3 0 0) ∧ ver s.2.2.1 = -4 ∧ (0 ≤ s.2.2.2.1 ∧ s.2.2.2.1 < F 11 s.2.2.1 0) ∧ pz (s.2.2.1 * 3 + s.2.2.2.1) = false ∧ (0 ≤ s.2.2.2.2 ∧ s.2.2.2.2 < F 0 0 0) ∧ whyW F S ver sta s.2.2.1 s.2.2.2.1 s.2.2.2.2 = 0 ∧ s.2.1 = gainW F Q s.2.2.1 s.2.2.2.1 s.2.2.2.2) := by
  rcases h with z | ⟨a, b, c, d, e, f, g, i⟩
  · subst z
    exact Or.inl ⟨rfl, rfl⟩
  · have w := wf_pv hf a.1 a.2 c.1 c.2
    have n0 : s.1 ≠ 0 := by omega
    refine Or.inr ⟨n0, ?_, a, b, c, d, e, f, i⟩
    unfold cod
    rw [if_neg n0]
/-! ===== GapTellingsModel.greeds ===== -/
abbrev rmX8_greeds : Room := { frames := 4, cells := 0, slots := 0, locals := 103 }
abbrev argX8_greeds (a : Unit) : List PV := [.inr (30, 0)]
abbrev CtX8_greeds (sp : Mem → Kont → Prop) : Prop := Ct yX8_greeds cX8_greeds 5 (some .int) rmX8_greeds domM argX8_greeds (fun _ => sp)
theorem dX8_greeds_0 : decode cX8_greeds 0 = .ok (.aload_n 0, 1) := by decide +kernel
theorem dX8_greeds_1 : decode cX8_greeds 1 = .ok (.invokevirtual 137, 3) := by decide +kernel
theorem dX8_greeds_4 : decode cX8_greeds 4 = .ok (.iconst 0, 1) := by decide +kernel
theorem dX8_greeds_5 : decode cX8_greeds 5 = .ok (.istore_n 1, 1) := by decide +kernel
theorem dX8_greeds_6 : decode cX8_greeds 6 = .ok (.iload_n 1, 1) := by decide +kernel
theorem dX8_greeds_7 : decode cX8_greeds 7 = .ok (.bipush 7, 2) := by decide +kernel
theorem dX8_greeds_9 : decode cX8_greeds 9 = .ok (.if_icmp .ge 33, 3) := by decide +kernel
theorem dX8_greeds_12 : decode cX8_greeds 12 = .ok (.aload_n 0, 1) := by decide +kernel
theorem dX8_greeds_13 : decode cX8_greeds 13 = .ok (.getfield 40, 3) := by decide +kernel
theorem dX8_greeds_16 : decode cX8_greeds 16 = .ok (.iload_n 1, 1) := by decide +kernel
theorem dX8_greeds_17 : decode cX8_greeds 17 = .ok (.aload_n 0, 1) := by decide +kernel
theorem dX8_greeds_18 : decode cX8_greeds 18 = .ok (.getfield 28, 3) := by decide +kernel
theorem dX8_greeds_21 : decode cX8_greeds 21 = .ok (.iload_n 1, 1) := by decide +kernel
theorem dX8_greeds_22 : decode cX8_greeds 22 = .ok (.iaload, 1) := by decide +kernel
theorem dX8_greeds_23 : decode cX8_greeds 23 = .ok (.iastore, 1) := by decide +kernel
theorem dX8_greeds_24 : decode cX8_greeds 24 = .ok (.aload_n 0, 1) := by decide +kernel
theorem dX8_greeds_25 : decode cX8_greeds 25 = .ok (.getfield 43, 3) := by decide +kernel
theorem dX8_greeds_28 : decode cX8_greeds 28 = .ok (.iload_n 1, 1) := by decide +kernel
theorem dX8_greeds_29 : decode cX8_greeds 29 = .ok (.aload_n 0, 1) := by decide +kernel
theorem dX8_greeds_30 : decode cX8_greeds 30 = .ok (.getfield 31, 3) := by decide +kernel
theorem dX8_greeds_33 : decode cX8_greeds 33 = .ok (.iload_n 1, 1) := by decide +kernel
theorem dX8_greeds_34 : decode cX8_greeds 34 = .ok (.iaload, 1) := by decide +kernel
theorem dX8_greeds_35 : decode cX8_greeds 35 = .ok (.iastore, 1) := by decide +kernel
theorem dX8_greeds_36 : decode cX8_greeds 36 = .ok (.iinc 1 1, 3) := by decide +kernel
theorem dX8_greeds_39 : decode cX8_greeds 39 = .ok (.goto (-33), 3) := by decide +kernel
theorem dX8_greeds_42 : decode cX8_greeds 42 = .ok (.aload_n 0, 1) := by decide +kernel
theorem dX8_greeds_43 : decode cX8_greeds 43 = .ok (.invokevirtual 77, 3) := by decide +kernel
theorem dX8_greeds_46 : decode cX8_greeds 46 = .ok (.iconst 0, 1) := by decide +kernel
theorem dX8_greeds_47 : decode cX8_greeds 47 = .ok (.istore_n 1, 1) := by decide +kernel
theorem dX8_greeds_48 : decode cX8_greeds 48 = .ok (.iload_n 1, 1) := by decide +kernel
theorem dX8_greeds_49 : decode cX8_greeds 49 = .ok (.bipush 21, 2) := by decide +kernel
theorem dX8_greeds_51 : decode cX8_greeds 51 = .ok (.if_icmp .ge 16, 3) := by decide +kernel
theorem dX8_greeds_54 : decode cX8_greeds 54 = .ok (.aload_n 0, 1) := by decide +kernel
theorem dX8_greeds_55 : decode cX8_greeds 55 = .ok (.getfield 46, 3) := by decide +kernel
theorem dX8_greeds_58 : decode cX8_greeds 58 = .ok (.iload_n 1, 1) := by decide +kernel
theorem dX8_greeds_59 : decode cX8_greeds 59 = .ok (.iconst 0, 1) := by decide +kernel
theorem dX8_greeds_60 : decode cX8_greeds 60 = .ok (.iastore, 1) := by decide +kernel
theorem dX8_greeds_61 : decode cX8_greeds 61 = .ok (.iinc 1 1, 3) := by decide +kernel
theorem dX8_greeds_64 : decode cX8_greeds 64 = .ok (.goto (-16), 3) := by decide +kernel
theorem dX8_greeds_67 : decode cX8_greeds 67 = .ok (.aload_n 0, 1) := by decide +kernel
theorem dX8_greeds_68 : decode cX8_greeds 68 = .ok (.invokevirtual 184, 3) := by decide +kernel
theorem dX8_greeds_71 : decode cX8_greeds 71 = .ok (.istore_n 1, 1) := by decide +kernel
theorem dX8_greeds_72 : decode cX8_greeds 72 = .ok (.iload_n 1, 1) := by decide +kernel
theorem dX8_greeds_73 : decode cX8_greeds 73 = .ok (.ifCond .lt 70, 3) := by decide +kernel
theorem dX8_greeds_76 : decode cX8_greeds 76 = .ok (.iload_n 1, 1) := by decide +kernel
theorem dX8_greeds_77 : decode cX8_greeds 77 = .ok (.sipush 300, 3) := by decide +kernel
theorem dX8_greeds_80 : decode cX8_greeds 80 = .ok (.idiv, 1) := by decide +kernel
theorem dX8_greeds_81 : decode cX8_greeds 81 = .ok (.istore_n 2, 1) := by decide +kernel
theorem dX8_greeds_82 : decode cX8_greeds 82 = .ok (.iload_n 1, 1) := by decide +kernel
theorem dX8_greeds_83 : decode cX8_greeds 83 = .ok (.bipush 100, 2) := by decide +kernel
theorem dX8_greeds_85 : decode cX8_greeds 85 = .ok (.idiv, 1) := by decide +kernel
theorem dX8_greeds_86 : decode cX8_greeds 86 = .ok (.iconst 3, 1) := by decide +kernel
theorem dX8_greeds_87 : decode cX8_greeds 87 = .ok (.irem, 1) := by decide +kernel
theorem dX8_greeds_88 : decode cX8_greeds 88 = .ok (.istore_n 3, 1) := by decide +kernel
theorem dX8_greeds_89 : decode cX8_greeds 89 = .ok (.iload_n 1, 1) := by decide +kernel
theorem dX8_greeds_90 : decode cX8_greeds 90 = .ok (.bipush 100, 2) := by decide +kernel
theorem dX8_greeds_92 : decode cX8_greeds 92 = .ok (.irem, 1) := by decide +kernel
theorem dX8_greeds_93 : decode cX8_greeds 93 = .ok (.istore 4, 2) := by decide +kernel
theorem dX8_greeds_95 : decode cX8_greeds 95 = .ok (.aload_n 0, 1) := by decide +kernel
theorem dX8_greeds_96 : decode cX8_greeds 96 = .ok (.iload_n 2, 1) := by decide +kernel
theorem dX8_greeds_97 : decode cX8_greeds 97 = .ok (.iload_n 3, 1) := by decide +kernel
theorem dX8_greeds_98 : decode cX8_greeds 98 = .ok (.iload 4, 2) := by decide +kernel
theorem dX8_greeds_100 : decode cX8_greeds 100 = .ok (.invokevirtual 160, 3) := by decide +kernel
theorem dX8_greeds_103 : decode cX8_greeds 103 = .ok (.ifCond .le 21, 3) := by decide +kernel
theorem dX8_greeds_106 : decode cX8_greeds 106 = .ok (.aload_n 0, 1) := by decide +kernel
theorem dX8_greeds_107 : decode cX8_greeds 107 = .ok (.getfield 28, 3) := by decide +kernel
theorem dX8_greeds_110 : decode cX8_greeds 110 = .ok (.iload_n 2, 1) := by decide +kernel
theorem dX8_greeds_111 : decode cX8_greeds 111 = .ok (.iload_n 3, 1) := by decide +kernel
theorem dX8_greeds_112 : decode cX8_greeds 112 = .ok (.iastore, 1) := by decide +kernel
theorem dX8_greeds_113 : decode cX8_greeds 113 = .ok (.aload_n 0, 1) := by decide +kernel
theorem dX8_greeds_114 : decode cX8_greeds 114 = .ok (.getfield 31, 3) := by decide +kernel
theorem dX8_greeds_117 : decode cX8_greeds 117 = .ok (.iload_n 2, 1) := by decide +kernel
theorem dX8_greeds_118 : decode cX8_greeds 118 = .ok (.iload 4, 2) := by decide +kernel
theorem dX8_greeds_120 : decode cX8_greeds 120 = .ok (.iastore, 1) := by decide +kernel
theorem dX8_greeds_121 : decode cX8_greeds 121 = .ok (.goto 14, 3) := by decide +kernel
theorem dX8_greeds_124 : decode cX8_greeds 124 = .ok (.aload_n 0, 1) := by decide +kernel
theorem dX8_greeds_125 : decode cX8_greeds 125 = .ok (.getfield 46, 3) := by decide +kernel
theorem dX8_greeds_128 : decode cX8_greeds 128 = .ok (.iconst 3, 1) := by decide +kernel
theorem dX8_greeds_129 : decode cX8_greeds 129 = .ok (.iload_n 2, 1) := by decide +kernel
theorem dX8_greeds_130 : decode cX8_greeds 130 = .ok (.imul, 1) := by decide +kernel
theorem dX8_greeds_131 : decode cX8_greeds 131 = .ok (.iload_n 3, 1) := by decide +kernel
theorem dX8_greeds_132 : decode cX8_greeds 132 = .ok (.iadd, 1) := by decide +kernel
theorem dX8_greeds_133 : decode cX8_greeds 133 = .ok (.iconst 1, 1) := by decide +kernel
theorem dX8_greeds_134 : decode cX8_greeds 134 = .ok (.iastore, 1) := by decide +kernel
theorem dX8_greeds_135 : decode cX8_greeds 135 = .ok (.aload_n 0, 1) := by decide +kernel
theorem dX8_greeds_136 : decode cX8_greeds 136 = .ok (.invokevirtual 184, 3) := by decide +kernel
theorem dX8_greeds_139 : decode cX8_greeds 139 = .ok (.istore_n 1, 1) := by decide +kernel
theorem dX8_greeds_140 : decode cX8_greeds 140 = .ok (.goto (-68), 3) := by decide +kernel
theorem dX8_greeds_143 : decode cX8_greeds 143 = .ok (.aload_n 0, 1) := by decide +kernel
theorem dX8_greeds_144 : decode cX8_greeds 144 = .ok (.invokevirtual 164, 3) := by decide +kernel
theorem dX8_greeds_147 : decode cX8_greeds 147 = .ok (.istore_n 2, 1) := by decide +kernel
theorem dX8_greeds_148 : decode cX8_greeds 148 = .ok (.iconst 0, 1) := by decide +kernel
theorem dX8_greeds_149 : decode cX8_greeds 149 = .ok (.istore_n 3, 1) := by decide +kernel
theorem dX8_greeds_150 : decode cX8_greeds 150 = .ok (.iload_n 3, 1) := by decide +kernel
theorem dX8_greeds_151 : decode cX8_greeds 151 = .ok (.bipush 7, 2) := by decide +kernel
theorem dX8_greeds_153 : decode cX8_greeds 153 = .ok (.if_icmp .ge 57, 3) := by decide +kernel
theorem dX8_greeds_156 : decode cX8_greeds 156 = .ok (.aload_n 0, 1) := by decide +kernel
theorem dX8_greeds_157 : decode cX8_greeds 157 = .ok (.getfield 34, 3) := by decide +kernel
theorem dX8_greeds_160 : decode cX8_greeds 160 = .ok (.iload_n 3, 1) := by decide +kernel
theorem dX8_greeds_161 : decode cX8_greeds 161 = .ok (.aload_n 0, 1) := by decide +kernel
theorem dX8_greeds_162 : decode cX8_greeds 162 = .ok (.getfield 28, 3) := by decide +kernel
theorem dX8_greeds_165 : decode cX8_greeds 165 = .ok (.iload_n 3, 1) := by decide +kernel
theorem dX8_greeds_166 : decode cX8_greeds 166 = .ok (.iaload, 1) := by decide +kernel
theorem dX8_greeds_167 : decode cX8_greeds 167 = .ok (.iastore, 1) := by decide +kernel
theorem dX8_greeds_168 : decode cX8_greeds 168 = .ok (.aload_n 0, 1) := by decide +kernel
theorem dX8_greeds_169 : decode cX8_greeds 169 = .ok (.getfield 37, 3) := by decide +kernel
theorem dX8_greeds_172 : decode cX8_greeds 172 = .ok (.iload_n 3, 1) := by decide +kernel
theorem dX8_greeds_173 : decode cX8_greeds 173 = .ok (.aload_n 0, 1) := by decide +kernel
theorem dX8_greeds_174 : decode cX8_greeds 174 = .ok (.getfield 31, 3) := by decide +kernel
theorem dX8_greeds_177 : decode cX8_greeds 177 = .ok (.iload_n 3, 1) := by decide +kernel
theorem dX8_greeds_178 : decode cX8_greeds 178 = .ok (.iaload, 1) := by decide +kernel
theorem dX8_greeds_179 : decode cX8_greeds 179 = .ok (.iastore, 1) := by decide +kernel
theorem dX8_greeds_180 : decode cX8_greeds 180 = .ok (.aload_n 0, 1) := by decide +kernel
theorem dX8_greeds_181 : decode cX8_greeds 181 = .ok (.getfield 28, 3) := by decide +kernel
theorem dX8_greeds_184 : decode cX8_greeds 184 = .ok (.iload_n 3, 1) := by decide +kernel
theorem dX8_greeds_185 : decode cX8_greeds 185 = .ok (.aload_n 0, 1) := by decide +kernel
theorem dX8_greeds_186 : decode cX8_greeds 186 = .ok (.getfield 40, 3) := by decide +kernel
theorem dX8_greeds_189 : decode cX8_greeds 189 = .ok (.iload_n 3, 1) := by decide +kernel
theorem dX8_greeds_190 : decode cX8_greeds 190 = .ok (.iaload, 1) := by decide +kernel
theorem dX8_greeds_191 : decode cX8_greeds 191 = .ok (.iastore, 1) := by decide +kernel
theorem dX8_greeds_192 : decode cX8_greeds 192 = .ok (.aload_n 0, 1) := by decide +kernel
theorem dX8_greeds_193 : decode cX8_greeds 193 = .ok (.getfield 31, 3) := by decide +kernel
theorem dX8_greeds_196 : decode cX8_greeds 196 = .ok (.iload_n 3, 1) := by decide +kernel
theorem dX8_greeds_197 : decode cX8_greeds 197 = .ok (.aload_n 0, 1) := by decide +kernel
theorem dX8_greeds_198 : decode cX8_greeds 198 = .ok (.getfield 43, 3) := by decide +kernel
theorem dX8_greeds_201 : decode cX8_greeds 201 = .ok (.iload_n 3, 1) := by decide +kernel
theorem dX8_greeds_202 : decode cX8_greeds 202 = .ok (.iaload, 1) := by decide +kernel
theorem dX8_greeds_203 : decode cX8_greeds 203 = .ok (.iastore, 1) := by decide +kernel
theorem dX8_greeds_204 : decode cX8_greeds 204 = .ok (.iinc 3 1, 3) := by decide +kernel
theorem dX8_greeds_207 : decode cX8_greeds 207 = .ok (.goto (-57), 3) := by decide +kernel
theorem dX8_greeds_210 : decode cX8_greeds 210 = .ok (.iload_n 2, 1) := by decide +kernel
theorem dX8_greeds_211 : decode cX8_greeds 211 = .ok (.ireturn, 1) := by decide +kernel
theorem flX8_40 : FL RX8 40 8 19 := ⟨_, _, _, rfl, by decide, uwX8, Or.inl (tb_mem (t_in4 (List.mem_of_getElem? (i := 127) (by decide +kernel))) (by decide +kernel))⟩
theorem flX8_43 : FL RX8 43 8 20 := ⟨_, _, _, rfl, by decide, uwX8, Or.inl (tb_mem (t_in4 (List.mem_of_getElem? (i := 128) (by decide +kernel))) (by decide +kernel))⟩
theorem ivX8_184 : IV RX8 184 yX8_worthiest cX8_worthiest 10 (some .int) 0 := ⟨(tb_mem (t_in5 (List.mem_of_getElem? (i := 157) (by decide +kernel))) (by decide +kernel)), (tb_mem (t_in5 (List.mem_of_getElem? (i := 159) (by decide +kernel))) (by decide +kernel)), (tb_sel (q := (⟨"GapTellingsModel", "worthiest", "()I"⟩, 29)) (List.mem_of_getElem? (i := 33) (by decide +kernel)) (by decide +kernel)), (tb_mem (t_in1 (List.mem_of_getElem? (i := 16) (by decide +kernel))) (by decide +kernel)), (tb_mem (t_in5 (List.mem_of_getElem? (i := 160) (by decide +kernel))) (by decide +kernel)), ⟨by decide +kernel, by decide +kernel, by decide +kernel⟩⟩
set_option maxHeartbeats 4000000 in
set_option maxRecDepth 20000 in
theorem sgX8_greeds_0 {κ : Kx} {K : Kont} {M : Mem} (C : Cx κ RX8 cX8_greeds 5 (some .int) rmX8_greeds domM) 
    (h :
    spX8_hears M (rV (fun M1 =>
    V κ 5 M1 6 [some (.inr (30, 0)), some (.inl 0), none, none, none] [] K))) : V κ 5 M 0 [some (.inr (30, 0)), none, none, none, none] [] K := by
  refine v_aload_n C dX8_greeds_0 rfl ?_
  refine v_invV C ctX8_hears dX8_greeds_1 ivX8_137 ⟨by decide, by decide, rfl, rfl⟩ (() : Unit) (As := []) rfl rfl rfl (by decide) rfl (st := []) rfl (Nat.le_of_ble_eq_true rfl) h (fun o M1 oM1 io1 g1 => ?_)
  replace h := rV_out g1
  clear g1
  obtain ⟨rfl, h⟩ := h
  refine v_push0 ?_
  refine v_iconst C dX8_greeds_4 (by decide) ?_
  refine v_istore_n C dX8_greeds_5 (by decide) (Nat.le_of_ble_eq_true rfl) (lv' := [some (.inr (30, 0)), some (.inl 0), none, none, none]) rfl ?_
  refine v_weak [some (.inr (30, 0)), some (.inl 0), none, none, none] ⟨rfl, rfl, trivial⟩ ?_
  exact h
set_option maxHeartbeats 4000000 in
set_option maxRecDepth 20000 in
theorem sgX8_greeds_6 {κ : Kx} {K : Kont} {M : Mem} (C : Cx κ RX8 cX8_greeds 5 (some .int) rmX8_greeds domM) (x1 : Int)
    (h :
    ((7 ≤ x1 →
      spX8_clears M (rV (fun M43 =>
      V κ 5 M43 48 [some (.inr (30, 0)), some (.inl 0), none, none, none] [] K))) ∧
     (¬ (7 ≤ x1) →
      (0 ≤ x1 ∧ x1 < 7) ∧
      (0 ≤ x1 ∧ x1 < 7) ∧
      ∀ M23 : Mem, M23 = up3 M 49 0 x1 (M 45 0 x1) →
      (0 ≤ x1 ∧ x1 < 7) ∧
      (0 ≤ x1 ∧ x1 < 7) ∧
      ∀ M35 : Mem, M35 = up3 M23 50 0 x1 (M23 46 0 x1) →
      inR (x1 + 1) ∧
      V κ 5 M35 6 [some (.inr (30, 0)), some (.inl (x1 + 1)), none, none, none] [] K))) : V κ 5 M 6 [some (.inr (30, 0)), some (.inl x1), none, none, none] [] K := by
  refine v_iload_n C dX8_greeds_6 rfl ?_
  refine v_bipush C dX8_greeds_7 (by decide) (by decide) ?_
  refine v_icmp C dX8_greeds_9 (tgt := 42) (by decide) (P := 7 ≤ x1) rfl (fun c9 => ?_) (fun c9 => ?_)
  · replace h := h.1 c9
    refine v_aload_n C dX8_greeds_42 rfl ?_
    refine v_invV C ctX8_clears dX8_greeds_43 ivX8_77 ⟨by decide, by decide, rfl, rfl⟩ (() : Unit) (As := []) rfl rfl rfl (by decide) rfl (st := []) rfl (Nat.le_of_ble_eq_true rfl) h (fun o M43 oM43 io43 g43 => ?_)
    replace h := rV_out g43
    clear g43
    obtain ⟨rfl, h⟩ := h
    refine v_push0 ?_
    refine v_iconst C dX8_greeds_46 (by decide) ?_
    refine v_istore_n C dX8_greeds_47 (by decide) (Nat.le_of_ble_eq_true rfl) (lv' := [some (.inr (30, 0)), some (.inl 0), none, none, none]) rfl ?_
    refine v_weak [some (.inr (30, 0)), some (.inl 0), none, none, none] ⟨rfl, rfl, trivial⟩ ?_
    exact h
  · replace h := h.2 c9
    refine v_aload_n C dX8_greeds_12 rfl ?_
    refine v_get C dX8_greeds_13 flX8_40 rfl (by decide) (by decide) (w := .inr (49, 0)) rfl ?_
    refine v_iload_n C dX8_greeds_16 rfl ?_
    refine v_aload_n C dX8_greeds_17 rfl ?_
    refine v_get C dX8_greeds_18 flX8_28 rfl (by decide) (by decide) (w := .inr (45, 0)) rfl ?_
    refine v_iload_n C dX8_greeds_21 rfl ?_
    refine v_iald C dX8_greeds_22 rfl h.1.1 h.1.2 ?_
    replace h := h.2
    refine v_iast C dX8_greeds_23 rfl h.1.1 h.1.2 ?_
    replace h := h.2
    refine v_nmM (fun M23 eM23 => ?_)
    replace h := h M23 eM23
    refine v_aload_n C dX8_greeds_24 rfl ?_
    refine v_get C dX8_greeds_25 flX8_43 rfl (by decide) (by decide) (w := .inr (50, 0)) rfl ?_
    refine v_iload_n C dX8_greeds_28 rfl ?_
    refine v_aload_n C dX8_greeds_29 rfl ?_
    refine v_get C dX8_greeds_30 flX8_31 rfl (by decide) (by decide) (w := .inr (46, 0)) rfl ?_
    refine v_iload_n C dX8_greeds_33 rfl ?_
    refine v_iald C dX8_greeds_34 rfl h.1.1 h.1.2 ?_
    replace h := h.2
    refine v_iast C dX8_greeds_35 rfl h.1.1 h.1.2 ?_
    replace h := h.2
    refine v_nmM (fun M35 eM35 => ?_)
    replace h := h M35 eM35
    refine v_iinc C dX8_greeds_36 (by decide) rfl h.1 (lv' := [some (.inr (30, 0)), some (.inl (x1 + 1)), none, none, none]) rfl ?_
    replace h := h.2
    refine v_goto C dX8_greeds_39 (tgt := 6) (by decide) ?_
    refine v_weak [some (.inr (30, 0)), some (.inl (x1 + 1)), none, none, none] ⟨rfl, rfl, trivial⟩ ?_
    exact h
set_option maxHeartbeats 4000000 in
set_option maxRecDepth 20000 in
theorem sgX8_greeds_48 {κ : Kx} {K : Kont} {M : Mem} (C : Cx κ RX8 cX8_greeds 5 (some .int) rmX8_greeds domM) (x1 : Int)
    (h :
    ((21 ≤ x1 →
      spX8_worthiest M (rI (fun r68 M68 =>
      V κ 5 M68 72 [some (.inr (30, 0)), some (.inl r68), none, none, none] [] K))) ∧
     (¬ (21 ≤ x1) →
      (0 ≤ x1 ∧ x1 < 21) ∧
      ∀ M60 : Mem, M60 = up3 M 51 0 x1 0 →
      inR (x1 + 1) ∧
      V κ 5 M60 48 [some (.inr (30, 0)), some (.inl (x1 + 1)), none, none, none] [] K))) : V κ 5 M 48 [some (.inr (30, 0)), some (.inl x1), none, none, none] [] K := by
  refine v_iload_n C dX8_greeds_48 rfl ?_
  refine v_bipush C dX8_greeds_49 (by decide) (by decide) ?_
  refine v_icmp C dX8_greeds_51 (tgt := 67) (by decide) (P := 21 ≤ x1) rfl (fun c51 => ?_) (fun c51 => ?_)
  · replace h := h.1 c51
    refine v_aload_n C dX8_greeds_67 rfl ?_
    refine v_invV C ctX8_worthiest dX8_greeds_68 ivX8_184 ⟨by decide, by decide, rfl, rfl⟩ (() : Unit) (As := []) rfl rfl rfl (by decide) rfl (st := []) rfl (Nat.le_of_ble_eq_true rfl) h (fun o M68 oM68 io68 g68 => ?_)
    replace h := rI_out g68
    clear g68
    obtain ⟨r68, rfl, h⟩ := h
    refine v_push ?_
    refine v_istore_n C dX8_greeds_71 (by decide) (Nat.le_of_ble_eq_true rfl) (lv' := [some (.inr (30, 0)), some (.inl r68), none, none, none]) rfl ?_
    refine v_weak [some (.inr (30, 0)), some (.inl r68), none, none, none] ⟨rfl, rfl, trivial⟩ ?_
    exact h
  · replace h := h.2 c51
    refine v_aload_n C dX8_greeds_54 rfl ?_
    refine v_get C dX8_greeds_55 flX8_46 rfl (by decide) (by decide) (w := .inr (51, 0)) rfl ?_
    refine v_iload_n C dX8_greeds_58 rfl ?_
    refine v_iconst C dX8_greeds_59 (by decide) ?_
    refine v_iast C dX8_greeds_60 rfl h.1.1 h.1.2 ?_
    replace h := h.2
    refine v_nmM (fun M60 eM60 => ?_)
    replace h := h M60 eM60
    refine v_iinc C dX8_greeds_61 (by decide) rfl h.1 (lv' := [some (.inr (30, 0)), some (.inl (x1 + 1)), none, none, none]) rfl ?_
    replace h := h.2
    refine v_goto C dX8_greeds_64 (tgt := 48) (by decide) ?_
    refine v_weak [some (.inr (30, 0)), some (.inl (x1 + 1)), none, none, none] ⟨rfl, rfl, trivial⟩ ?_
    exact h
set_option maxHeartbeats 4000000 in
set_option maxRecDepth 20000 in
theorem sgX8_greeds_72 {κ : Kx} {K : Kont} {M : Mem} (C : Cx κ RX8 cX8_greeds 5 (some .int) rmX8_greeds domM) (x1 : Int)
    (h :
    ((x1 < 0 →
      spX8_sum M (rI (fun r144 M144 =>
      V κ 5 M144 150 [some (.inr (30, 0)), none, some (.inl r144), some (.inl 0), none] [] K))) ∧
     (¬ (x1 < 0) →
      0 ≤ x1 ∧
      ∀ y2_81 : Int, y2_81 = x1 / 300 →
      0 ≤ x1 ∧
      0 ≤ (x1 / 100) ∧
      ∀ y3_88 : Int, y3_88 = (x1 / 100) % 3 →
      0 ≤ x1 ∧
      ∀ y4_93 : Int, y4_93 = x1 % 100 →
      spX8_gainOf y2_81 y3_88 y4_93 M (rI (fun r100 M100 =>
      ((r100 ≤ 0 →
        inR (3 * y2_81) ∧
        inR ((3 * y2_81) + y3_88) ∧
        (0 ≤ ((3 * y2_81) + y3_88) ∧ ((3 * y2_81) + y3_88) < 21) ∧
        ∀ M134 : Mem, M134 = up3 M100 51 0 ((3 * y2_81) + y3_88) 1 →
        spX8_worthiest M134 (rI (fun r136 M136 =>
        V κ 5 M136 72 [some (.inr (30, 0)), some (.inl r136), none, none, none] [] K))) ∧
       (¬ (r100 ≤ 0) →
        (0 ≤ y2_81 ∧ y2_81 < 7) ∧
        ∀ M112 : Mem, M112 = up3 M100 45 0 y2_81 y3_88 →
        (0 ≤ y2_81 ∧ y2_81 < 7) ∧
        ∀ M120 : Mem, M120 = up3 M112 46 0 y2_81 y4_93 →
        spX8_worthiest M120 (rI (fun r136 M136 =>
        V κ 5 M136 72 [some (.inr (30, 0)), some (.inl r136), none, none, none] [] K))))))))) : V κ 5 M 72 [some (.inr (30, 0)), some (.inl x1), none, none, none] [] K := by
  refine v_iload_n C dX8_greeds_72 rfl ?_
  refine v_if C dX8_greeds_73 (tgt := 143) (by decide) (P := x1 < 0) rfl (fun c73 => ?_) (fun c73 => ?_)
  · replace h := h.1 c73
    refine v_aload_n C dX8_greeds_143 rfl ?_
    refine v_invV C ctX8_sum dX8_greeds_144 ivX8_164 ⟨by decide, by decide, rfl, rfl⟩ (() : Unit) (As := []) rfl rfl rfl (by decide) rfl (st := []) rfl (Nat.le_of_ble_eq_true rfl) h (fun o M144 oM144 io144 g144 => ?_)
    replace h := rI_out g144
    clear g144
    obtain ⟨r144, rfl, h⟩ := h
    refine v_push ?_
    refine v_istore_n C dX8_greeds_147 (by decide) (Nat.le_of_ble_eq_true rfl) (lv' := [some (.inr (30, 0)), some (.inl x1), some (.inl r144), none, none]) rfl ?_
    refine v_iconst C dX8_greeds_148 (by decide) ?_
    refine v_istore_n C dX8_greeds_149 (by decide) (Nat.le_of_ble_eq_true rfl) (lv' := [some (.inr (30, 0)), some (.inl x1), some (.inl r144), some (.inl 0), none]) rfl ?_
    refine v_weak [some (.inr (30, 0)), none, some (.inl r144), some (.inl 0), none] ⟨rfl, rfl, rfl, trivial⟩ ?_
    exact h
  · replace h := h.2 c73
    refine v_iload_n C dX8_greeds_76 rfl ?_
    refine v_sipush C dX8_greeds_77 (by decide) (by decide) ?_
    refine v_idiv C dX8_greeds_80 h.1 (by decide) ?_
    replace h := h.2
    refine v_nm (fun y2_81 ey2_81 => ?_)
    replace h := h y2_81 ey2_81
    refine v_istore_n C dX8_greeds_81 (by decide) (Nat.le_of_ble_eq_true rfl) (lv' := [some (.inr (30, 0)), some (.inl x1), some (.inl y2_81), none, none]) rfl ?_
    refine v_iload_n C dX8_greeds_82 rfl ?_
    refine v_bipush C dX8_greeds_83 (by decide) (by decide) ?_
    refine v_idiv C dX8_greeds_85 h.1 (by decide) ?_
    replace h := h.2
    refine v_iconst C dX8_greeds_86 (by decide) ?_
    refine v_irem C dX8_greeds_87 h.1 (by decide) ?_
    replace h := h.2
    refine v_nm (fun y3_88 ey3_88 => ?_)
    replace h := h y3_88 ey3_88
    refine v_istore_n C dX8_greeds_88 (by decide) (Nat.le_of_ble_eq_true rfl) (lv' := [some (.inr (30, 0)), some (.inl x1), some (.inl y2_81), some (.inl y3_88), none]) rfl ?_
    refine v_iload_n C dX8_greeds_89 rfl ?_
    refine v_bipush C dX8_greeds_90 (by decide) (by decide) ?_
    refine v_irem C dX8_greeds_92 h.1 (by decide) ?_
    replace h := h.2
    refine v_nm (fun y4_93 ey4_93 => ?_)
    replace h := h y4_93 ey4_93
    refine v_istore C dX8_greeds_93 (by decide) (Nat.le_of_ble_eq_true rfl) (lv' := [some (.inr (30, 0)), some (.inl x1), some (.inl y2_81), some (.inl y3_88), some (.inl y4_93)]) rfl ?_
    refine v_aload_n C dX8_greeds_95 rfl ?_
    refine v_iload_n C dX8_greeds_96 rfl ?_
    refine v_iload_n C dX8_greeds_97 rfl ?_
    refine v_iload C dX8_greeds_98 rfl ?_
    refine v_invV C ctX8_gainOf dX8_greeds_100 ivX8_160 ⟨by decide, by decide, rfl, rfl⟩ ((y2_81, y3_88, y4_93) : Int × Int × Int) (As := [.inl y2_81, .inl y3_88, .inl y4_93]) rfl rfl rfl (by decide) rfl (st := []) rfl (Nat.le_of_ble_eq_true rfl) h (fun o M100 oM100 io100 g100 => ?_)
    replace h := rI_out g100
    clear g100
    obtain ⟨r100, rfl, h⟩ := h
    refine v_push ?_
    refine v_if C dX8_greeds_103 (tgt := 124) (by decide) (P := r100 ≤ 0) rfl (fun c103 => ?_) (fun c103 => ?_)
    · replace h := h.1 c103
      refine v_aload_n C dX8_greeds_124 rfl ?_
      refine v_get C dX8_greeds_125 flX8_46 rfl (by decide) (by decide) (w := .inr (51, 0)) rfl ?_
      refine v_iconst C dX8_greeds_128 (by decide) ?_
      refine v_iload_n C dX8_greeds_129 rfl ?_
      refine v_imul C dX8_greeds_130 h.1 ?_
      replace h := h.2
      refine v_iload_n C dX8_greeds_131 rfl ?_
      refine v_iadd C dX8_greeds_132 h.1 ?_
      replace h := h.2
      refine v_iconst C dX8_greeds_133 (by decide) ?_
      refine v_iast C dX8_greeds_134 rfl h.1.1 h.1.2 ?_
      replace h := h.2
      refine v_nmM (fun M134 eM134 => ?_)
      replace h := h M134 eM134
      refine v_aload_n C dX8_greeds_135 rfl ?_
      refine v_invV C ctX8_worthiest dX8_greeds_136 ivX8_184 ⟨by decide, by decide, rfl, rfl⟩ (() : Unit) (As := []) rfl rfl rfl (by decide) rfl (st := []) rfl (Nat.le_of_ble_eq_true rfl) h (fun o M136 oM136 io136 g136 => ?_)
      replace h := rI_out g136
      clear g136
      obtain ⟨r136, rfl, h⟩ := h
      refine v_push ?_
      refine v_istore_n C dX8_greeds_139 (by decide) (Nat.le_of_ble_eq_true rfl) (lv' := [some (.inr (30, 0)), some (.inl r136), some (.inl y2_81), some (.inl y3_88), some (.inl y4_93)]) rfl ?_
      refine v_goto C dX8_greeds_140 (tgt := 72) (by decide) ?_
      refine v_weak [some (.inr (30, 0)), some (.inl r136), none, none, none] ⟨rfl, rfl, trivial⟩ ?_
      exact h
    · replace h := h.2 c103
      refine v_aload_n C dX8_greeds_106 rfl ?_
      refine v_get C dX8_greeds_107 flX8_28 rfl (by decide) (by decide) (w := .inr (45, 0)) rfl ?_
      refine v_iload_n C dX8_greeds_110 rfl ?_
      refine v_iload_n C dX8_greeds_111 rfl ?_
      refine v_iast C dX8_greeds_112 rfl h.1.1 h.1.2 ?_
      replace h := h.2
      refine v_nmM (fun M112 eM112 => ?_)
      replace h := h M112 eM112
      refine v_aload_n C dX8_greeds_113 rfl ?_
      refine v_get C dX8_greeds_114 flX8_31 rfl (by decide) (by decide) (w := .inr (46, 0)) rfl ?_
      refine v_iload_n C dX8_greeds_117 rfl ?_
      refine v_iload C dX8_greeds_118 rfl ?_
      refine v_iast C dX8_greeds_120 rfl h.1.1 h.1.2 ?_
      replace h := h.2
      refine v_nmM (fun M120 eM120 => ?_)
      replace h := h M120 eM120
      refine v_goto C dX8_greeds_121 (tgt := 135) (by decide) ?_
      refine v_aload_n C dX8_greeds_135 rfl ?_
      refine v_invV C ctX8_worthiest dX8_greeds_136 ivX8_184 ⟨by decide, by decide, rfl, rfl⟩ (() : Unit) (As := []) rfl rfl rfl (by decide) rfl (st := []) rfl (Nat.le_of_ble_eq_true rfl) h (fun o M136 oM136 io136 g136 => ?_)
      replace h := rI_out g136
      clear g136
      obtain ⟨r136, rfl, h⟩ := h
      refine v_push ?_
      refine v_istore_n C dX8_greeds_139 (by decide) (Nat.le_of_ble_eq_true rfl) (lv' := [some (.inr (30, 0)), some (.inl r136), some (.inl y2_81), some (.inl y3_88), some (.inl y4_93)]) rfl ?_
      refine v_goto C dX8_greeds_140 (tgt := 72) (by decide) ?_
      refine v_weak [some (.inr (30, 0)), some (.inl r136), none, none, none] ⟨rfl, rfl, trivial⟩ ?_
      exact h
set_option maxHeartbeats 4000000 in
set_option maxRecDepth 20000 in
theorem sgX8_greeds_150 {κ : Kx} {K : Kont} {M : Mem} (C : Cx κ RX8 cX8_greeds 5 (some .int) rmX8_greeds domM) (x2 : Int) (x3 : Int)
    (h :
    ((7 ≤ x3 →
      K (some x2) M) ∧
     (¬ (7 ≤ x3) →
      (0 ≤ x3 ∧ x3 < 7) ∧
      (0 ≤ x3 ∧ x3 < 7) ∧
      ∀ M167 : Mem, M167 = up3 M 47 0 x3 (M 45 0 x3) →
      (0 ≤ x3 ∧ x3 < 7) ∧
      (0 ≤ x3 ∧ x3 < 7) ∧
      ∀ M179 : Mem, M179 = up3 M167 48 0 x3 (M167 46 0 x3) →
      (0 ≤ x3 ∧ x3 < 7) ∧
      (0 ≤ x3 ∧ x3 < 7) ∧
      ∀ M191 : Mem, M191 = up3 M179 45 0 x3 (M179 49 0 x3) →
      (0 ≤ x3 ∧ x3 < 7) ∧
      (0 ≤ x3 ∧ x3 < 7) ∧
      ∀ M203 : Mem, M203 = up3 M191 46 0 x3 (M191 50 0 x3) →
      inR (x3 + 1) ∧
      V κ 5 M203 150 [some (.inr (30, 0)), none, some (.inl x2), some (.inl (x3 + 1)), none] [] K))) : V κ 5 M 150 [some (.inr (30, 0)), none, some (.inl x2), some (.inl x3), none] [] K := by
  refine v_iload_n C dX8_greeds_150 rfl ?_
  refine v_bipush C dX8_greeds_151 (by decide) (by decide) ?_
  refine v_icmp C dX8_greeds_153 (tgt := 210) (by decide) (P := 7 ≤ x3) rfl (fun c153 => ?_) (fun c153 => ?_)
  · replace h := h.1 c153
    refine v_iload_n C dX8_greeds_210 rfl ?_
    exact v_iret C dX8_greeds_211 h
  · replace h := h.2 c153
    refine v_aload_n C dX8_greeds_156 rfl ?_
    refine v_get C dX8_greeds_157 flX8_34 rfl (by decide) (by decide) (w := .inr (47, 0)) rfl ?_
    refine v_iload_n C dX8_greeds_160 rfl ?_
    refine v_aload_n C dX8_greeds_161 rfl ?_
    refine v_get C dX8_greeds_162 flX8_28 rfl (by decide) (by decide) (w := .inr (45, 0)) rfl ?_
    refine v_iload_n C dX8_greeds_165 rfl ?_
    refine v_iald C dX8_greeds_166 rfl h.1.1 h.1.2 ?_
    replace h := h.2
    refine v_iast C dX8_greeds_167 rfl h.1.1 h.1.2 ?_
    replace h := h.2
    refine v_nmM (fun M167 eM167 => ?_)
    replace h := h M167 eM167
    refine v_aload_n C dX8_greeds_168 rfl ?_
    refine v_get C dX8_greeds_169 flX8_37 rfl (by decide) (by decide) (w := .inr (48, 0)) rfl ?_
    refine v_iload_n C dX8_greeds_172 rfl ?_
    refine v_aload_n C dX8_greeds_173 rfl ?_
    refine v_get C dX8_greeds_174 flX8_31 rfl (by decide) (by decide) (w := .inr (46, 0)) rfl ?_
    refine v_iload_n C dX8_greeds_177 rfl ?_
    refine v_iald C dX8_greeds_178 rfl h.1.1 h.1.2 ?_
    replace h := h.2
    refine v_iast C dX8_greeds_179 rfl h.1.1 h.1.2 ?_
    replace h := h.2
    refine v_nmM (fun M179 eM179 => ?_)
    replace h := h M179 eM179
    refine v_aload_n C dX8_greeds_180 rfl ?_
    refine v_get C dX8_greeds_181 flX8_28 rfl (by decide) (by decide) (w := .inr (45, 0)) rfl ?_
    refine v_iload_n C dX8_greeds_184 rfl ?_
    refine v_aload_n C dX8_greeds_185 rfl ?_
    refine v_get C dX8_greeds_186 flX8_40 rfl (by decide) (by decide) (w := .inr (49, 0)) rfl ?_
    refine v_iload_n C dX8_greeds_189 rfl ?_
    refine v_iald C dX8_greeds_190 rfl h.1.1 h.1.2 ?_
    replace h := h.2
    refine v_iast C dX8_greeds_191 rfl h.1.1 h.1.2 ?_
    replace h := h.2
    refine v_nmM (fun M191 eM191 => ?_)
    replace h := h M191 eM191
    refine v_aload_n C dX8_greeds_192 rfl ?_
    refine v_get C dX8_greeds_193 flX8_31 rfl (by decide) (by decide) (w := .inr (46, 0)) rfl ?_
    refine v_iload_n C dX8_greeds_196 rfl ?_
    refine v_aload_n C dX8_greeds_197 rfl ?_
    refine v_get C dX8_greeds_198 flX8_43 rfl (by decide) (by decide) (w := .inr (50, 0)) rfl ?_
    refine v_iload_n C dX8_greeds_201 rfl ?_
    refine v_iald C dX8_greeds_202 rfl h.1.1 h.1.2 ?_
    replace h := h.2
    refine v_iast C dX8_greeds_203 rfl h.1.1 h.1.2 ?_
    replace h := h.2
    refine v_nmM (fun M203 eM203 => ?_)
    replace h := h M203 eM203
    refine v_iinc C dX8_greeds_204 (by decide) rfl h.1 (lv' := [some (.inr (30, 0)), none, some (.inl x2), some (.inl (x3 + 1)), none]) rfl ?_
    replace h := h.2
    refine v_goto C dX8_greeds_207 (tgt := 150) (by decide) ?_
    refine v_weak [some (.inr (30, 0)), none, some (.inl x2), some (.inl (x3 + 1)), none] ⟨rfl, rfl, rfl, trivial⟩ ?_
    exact h
abbrev spX8_greeds (M : Mem) (K : Kont) : Prop := InvM M ∧ ∀ M', AgQ M M' → PlEq (M 45 0) (M 46 0) (M' 45 0) (M' 46 0) → PlEq (M' 47 0) (M' 48 0) (gr0 (mFilm M)).1 (gr0 (mFilm M)).2 → K (some (vaN (mFilm M) (csb (mFilm M)) (gr0 (mFilm M)).1 (gr0 (mFilm M)).2 (mFilm M 3 0 0).toNat)) M'
theorem ctX8_greeds : CtX8_greeds spX8_greeds := by
  refine ct_of (by decide) dmM (fun _ => Nat.le_of_ble_eq_true rfl) ?_
  intro κ a M K C oM h
  obtain ⟨hI, hk⟩ := h
  have hf := hI.2.1
  have n3 := hf.2.2.2.1
  have T := hf.1
  generalize hF : mFilm M = F at *
  -- the end: what was found is kept, what is placed comes back
  have back : ∀ (n : Nat) (x : Int) (N : Mem) (y : Int), 0 ≤ x → x + n = 7 → AgQ M N → (∀ q, 0 ≤ q → q < 7 → N 49 0 q = M 45 0 q ∧ N 50 0 q = M 46 0 q) → (∀ q, 0 ≤ q → q < x → N 45 0 q = M 45 0 q ∧ N 46 0 q = M 46 0 q) → (∀ q, 0 ≤ q → q < x → N 47 0 q = (gr0 F).1 q ∧ N 48 0 q = (gr0 F).2 q) → (∀ q, x ≤ q → q < 7 → N 45 0 q = (gr0 F).1 q ∧ N 46 0 q = (gr0 F).2 q) → y = vaN F (csb F) (gr0 F).1 (gr0 F).2 (F 3 0 0).toNat →
      V κ 5 N 150 [some (.inr (30, 0)), none, some (.inl y), some (.inl x), none] [] K := by
    intro n
    induction n with
    | zero =>
      intro x N y x0 hx hA hh hb hg hr ey
      refine sgX8_greeds_150 C y x ⟨fun _ => ?_, fun z => absurd (by omega) z⟩
      rw [ey]
      exact hk N hA (fun q a b => ⟨(hb q a (by omega)).1.symm, (hb q a (by omega)).2.symm⟩) (fun q a b => hg q a (by omega))
    | succ n ih =>
      intro x N y x0 hx hA hh hb hg hr ey
      refine sgX8_greeds_150 C y x ⟨fun z => absurd z (by omega), fun _ => ⟨by omega, by omega, fun N1 e1 => ⟨by omega, by omega, fun N2 e2 => ⟨by omega, by omega, fun N3 e3 => ⟨by omega, by omega, fun N4 e4 => ⟨by omega, ?_⟩⟩⟩⟩⟩⟩
      have r4 : ∀ r i j, N4 r i j = if i = 0 ∧ j = x ∧ r = 46 then M 46 0 x else if i = 0 ∧ j = x ∧ r = 45 then M 45 0 x else if i = 0 ∧ j = x ∧ r = 48 then (gr0 F).2 x else if i = 0 ∧ j = x ∧ r = 47 then (gr0 F).1 x else N r i j := by
        intro r i j
        have h1 := hh x x0 (by omega)
        have h2 := hr x (by omega) (by omega)
        rw [e4, e3, e2, e1]
        simp only [up3]
        by_cases ei : i = 0
        · by_cases ej : j = x
          · subst ei ej
            by_cases q1 : r = 46
            · subst q1; simp [h1.2]
            · by_cases q2 : r = 45
              · subst q2; simp [h1.1]
              · by_cases q3 : r = 48
                · subst q3; simp [h2.2]
                · by_cases q4 : r = 47
                  · subst q4; simp [h2.1]
                  · simp [q1, q2, q3, q4]
          · simp [ej]
        · simp [ei]
      refine ih (x + 1) N4 y (by omega) (by omega) (hA.tr (AgQ.of (fun r hn => ?_))) (fun q a b => ?_) (fun q a b => ?_) (fun q a b => ?_) (fun q a b => ?_) ey
      · funext i j
        rw [r4, if_neg (by omega), if_neg (by omega), if_neg (by omega), if_neg (by omega)]
      · rw [r4, r4]
        have := hh q a b
        simp [this]
      · rw [r4, r4]
        by_cases e : q = x
        · subst e; simp
        · have := hb q a (by omega)
          simp [this, e]
      · rw [r4, r4]
        by_cases e : q = x
        · subst e; simp
        · have := hg q a (by omega)
          simp [this, e]
      · rw [r4, r4]
        have e : q ≠ x := by omega
        have := hr q (by omega) b
        simp [this, e]
  -- what the worthiest asks
  have askW : ∀ N : Mem, AgQ M N → HrK N F → PlK F (N 45 0) (N 46 0) → ∀ K2 : Kont, K2 (some (cod (grP F (spb F) (csb F) (N 45 0) (N 46 0) (pzM N) (F 3 0 0).toNat))) N → spX8_worthiest N K2 := by
    intro N hA hH hP K2 h2
    have f1 : mFilm N = F := by rw [hA.film, hF]
    refine ⟨⟨by rw [f1]; exact hf, by rw [f1]; exact hH, by rw [f1]; exact hP⟩, ?_⟩
    rw [f1]
    exact h2
  have main : ∀ (n : Nat) (N : Mem), AgQ M N → HrK N F → (∀ q, 0 ≤ q → q < 7 → N 49 0 q = M 45 0 q ∧ N 50 0 q = M 46 0 q) → PlK F (N 45 0) (N 46 0) → muN (N 45 0) (pzM N) < n → PlEq (grG F (spb F) (csb F) n (N 45 0) (N 46 0) (pzM N)).1 (grG F (spb F) (csb F) n (N 45 0) (N 46 0) (pzM N)).2 (gr0 F).1 (gr0 F).2 →
      V κ 5 N 72 [some (.inr (30, 0)), some (.inl (cod (grP F (spb F) (csb F) (N 45 0) (N 46 0) (pzM N) (F 3 0 0).toNat))), none, none, none] [] K := by
    intro n
    induction n with
    | zero =>
      intro N hA hH hh hP hmu hg
      have := mu_rng (N 45 0) (pzM N)
      omega
    | succ n ih =>
      intro N hA hH hh hP hmu hg
      have f1 : mFilm N = F := by rw [hA.film, hF]
      have ok := grP_ok (S := spb F) (Q := csb F) (ver := N 45 0) (sta := N 46 0) (pz := pzM N) hf (F 3 0 0).toNat (by omega)
      unfold grG at hg
      generalize grP F (spb F) (csb F) (N 45 0) (N 46 0) (pzM N) (F 3 0 0).toNat = s at *
      rcases grd_z hf ok with ⟨z1, z2⟩ | ⟨z1, z2, zp, zver, zv, zz, zt, zw, zg⟩
      · rw [if_pos z1] at hg
        refine sgX8_greeds_72 C (cod s) ⟨fun _ => ?_, fun z => absurd (by omega) z⟩
        refine ⟨⟨by rw [f1]; exact hf, by rw [f1]; exact hH, by rw [f1]; exact hP⟩, ?_⟩
        rw [f1]
        refine back 7 0 N _ (by omega) (by omega) hA hh (fun q a b => by omega) (fun q a b => by omega) (fun q a b => hg q a b) ?_
        exact vaN_c hf FEq.rf (fun _ _ _ => rfl) hP hg _ (by omega)
      · rw [if_neg z1] at hg
        obtain ⟨s1, s2, p, v, t⟩ := s
        dsimp only at z1 z2 zp zver zv zz zt zw zg hg
        have wv := wf_pv hf zp.1 zp.2 zv.1 zv.2
        have oe := own_end (why_own zw)
        rw [z2]
        refine sgX8_greeds_72 C _ ⟨fun z => absurd z (by omega), fun _ => ⟨by omega, fun y2 e2 => ⟨by omega, by omega, fun y3 e3 => ⟨by omega, fun y4 e4 => ?_⟩⟩⟩⟩
        have E2 : y2 = p := by omega
        have E3 : y3 = v := by omega
        have E4 : y4 = t := by omega
        subst E2 E3 E4
        refine ⟨⟨by rw [f1]; exact hf, by rw [f1]; exact hH, by rw [f1]; exact ⟨⟨zp, zv⟩, zt⟩, by rw [f1]; exact oe.1⟩, ?_⟩
        rw [f1, ← zg]
        refine ⟨fun c => ⟨by omega, by omega, by omega, fun N1 e1 => ?_⟩, fun c => ⟨by omega, fun N1 e1 => ⟨by omega, fun N2 e22 => ?_⟩⟩⟩
        · rw [if_pos c] at hg
          have r1 : ∀ r, r ≠ 51 → N1 r = N r := fun r hr => by funext i j; rw [e1, up3_r _ _ _ _ _ hr]
          have pz1 : pzM N1 = setB (pzM N) (y2 * 3 + y3) := by
            funext k
            unfold pzM setB
            rw [e1]
            by_cases e : k = y2 * 3 + y3
            · rw [show 3 * y2 + y3 = k by omega, up3_s]
              simp [e]
            · rw [up3_j _ _ _ _ _ (by omega)]
              simp [e]
          have hA1 : AgQ M N1 := hA.tr (AgQ.of (fun r hn => r1 r (by omega)))
          have hH1 : HrK N1 F := hrS hH (r1 52 (by decide))
          have hP1 : PlK F (N1 45 0) (N1 46 0) := by rw [r1 45 (by decide), r1 46 (by decide)]; exact hP
          refine askW N1 hA1 hH1 hP1 _ (ih N1 hA1 hH1 (fun q a b => by rw [r1 49 (by decide), r1 50 (by decide)]; exact hh q a b) hP1 ?_ ?_)
          · rw [r1 45 (by decide), pz1]
            have := mu_pass (ver := N 45 0) (pz := pzM N) (p := y2) (v := y3) (by omega) (by omega) zver zz
            omega
          · rw [r1 45 (by decide), r1 46 (by decide), pz1]
            exact hg
        · rw [if_neg c] at hg
          have r2 : ∀ r, r ≠ 45 → r ≠ 46 → N2 r = N r := fun r h1 h2 => by funext i j; rw [e22, up3_r _ _ _ _ _ h2, e1, up3_r _ _ _ _ _ h1]
          have v45 : N2 45 0 = setP (N 45 0) y2 y3 := by
            funext j
            rw [e22, up3_r _ _ _ _ _ (by decide), e1]
            unfold setP up3
            by_cases e : j = y2 <;> simp [e]
          have v46 : N2 46 0 = setP (N 46 0) y2 y4 := by
            funext j
            rw [e22]
            unfold setP up3
            rw [e1]
            by_cases e : j = y2 <;> simp [e, up3]
          have pz2 : pzM N2 = pzM N := by
            funext k
            unfold pzM
            rw [r2 51 (by decide) (by decide)]
          have hA2 : AgQ M N2 := hA.tr (AgQ.of (fun r hn => r2 r (by omega) (by omega)))
          have hH2 : HrK N2 F := hrS hH (r2 52 (by decide) (by decide))
          have hP2 : PlK F (N2 45 0) (N2 46 0) := by rw [v45, v46]; exact PlK_put hP zp.2 zv zt.1 oe.1
          refine askW N2 hA2 hH2 hP2 _ (ih N2 hA2 hH2 (fun q a b => by rw [r2 49 (by decide) (by decide), r2 50 (by decide) (by decide)]; exact hh q a b) hP2 ?_ ?_)
          · rw [v45, pz2]
            have := mu_put (ver := N 45 0) (pz := pzM N) (p := y2) (v := y3) (by omega) (by omega) zver zz
            omega
          · rw [v45, v46, pz2]
            exact hg
  have pass : ∀ (n : Nat) (x : Int) (N : Mem), 0 ≤ x → x + n = 21 → AgQ M N → HrK N F → (∀ q, 0 ≤ q → q < 7 → N 49 0 q = M 45 0 q ∧ N 50 0 q = M 46 0 q) → (∀ q, 0 ≤ q → q < 7 → N 45 0 q = -4 ∧ N 46 0 q = -4) → (∀ q, 0 ≤ q → q < x → N 51 0 q = 0) →
      V κ 5 N 48 [some (.inr (30, 0)), some (.inl x), none, none, none] [] K := by
    intro n
    induction n with
    | zero =>
      intro x N x0 hx hA hH hh hc hz
      have hP : PlK F (N 45 0) (N 46 0) := fun q a b => Or.inl (hc q a b)
      have mu := mu_rng (N 45 0) (pzM N)
      refine sgX8_greeds_48 C x ⟨fun _ => askW N hA hH hP _ (main 22 N hA hH hh hP (by omega) ?_), fun z => absurd (by omega) z⟩
      refine grG_eq hf (spb F) (csb F) 22 _ _ _ _ _ _ (fun q a b => hc q a b) (fun k a b => ?_)
      unfold pzM
      rw [hz k a (by omega)]
      simp
    | succ n ih =>
      intro x N x0 hx hA hH hh hc hz
      refine sgX8_greeds_48 C x ⟨fun z => absurd z (by omega), fun _ => ⟨by omega, fun N1 e1 => ⟨by omega, ?_⟩⟩⟩
      have r1 : ∀ r, r ≠ 51 → N1 r = N r := fun r hr => by funext i j; rw [e1, up3_r _ _ _ _ _ hr]
      refine ih (x + 1) N1 (by omega) (by omega) (hA.tr (AgQ.of (fun r hn => r1 r (by omega)))) (hrS hH (r1 52 (by decide))) (fun q a b => by rw [r1 49 (by decide), r1 50 (by decide)]; exact hh q a b) (fun q a b => by rw [r1 45 (by decide), r1 46 (by decide)]; exact hc q a b) (fun q a b => ?_)
      rw [e1]
      by_cases e : q = x
      · rw [e, up3_s]
      · rw [up3_j _ _ _ _ _ e]
        exact hz q a (by omega)
  have hand : ∀ (n : Nat) (x : Int) (N : Mem), 0 ≤ x → x + n = 7 → (∀ r, r ≠ 49 → r ≠ 50 → r ≠ 52 → N r = M r) → HrK N F → (∀ q, 0 ≤ q → q < x → N 49 0 q = M 45 0 q ∧ N 50 0 q = M 46 0 q) →
      V κ 5 N 6 [some (.inr (30, 0)), some (.inl x), none, none, none] [] K := by
    intro n
    induction n with
    | zero =>
      intro x N x0 hx hr hH hh
      refine sgX8_greeds_6 C x ⟨fun _ N1 c1 => ?_, fun z => absurd (by omega) z⟩
      have r1 : ∀ r, r ≠ 45 → r ≠ 46 → N1 r = N r := fun r h1 h2 => by funext i; exact c1.1 r i (by omega)
      exact pass 21 0 N1 (by omega) (by omega) (AgQ.of (fun r hn => by rw [r1 r (by omega) (by omega), hr r (by omega) (by omega) (by omega)])) (hrS hH (r1 52 (by decide) (by decide))) (fun q a b => by rw [r1 49 (by decide) (by decide), r1 50 (by decide) (by decide)]; exact hh q a (by omega)) c1.2 (fun q a b => by omega)
    | succ n ih =>
      intro x N x0 hx hr hH hh
      refine sgX8_greeds_6 C x ⟨fun z => absurd z (by omega), fun _ => ⟨by omega, by omega, fun N1 e1 => ⟨by omega, by omega, fun N2 e2 => ⟨by omega, ?_⟩⟩⟩⟩
      have r2 : ∀ r, r ≠ 49 → r ≠ 50 → N2 r = N r := fun r h1 h2 => by funext i j; rw [e2, up3_r _ _ _ _ _ h2, e1, up3_r _ _ _ _ _ h1]
      refine ih (x + 1) N2 (by omega) (by omega) (fun r h1 h2 h3 => by rw [r2 r h1 h2, hr r h1 h2 h3]) (hrS hH (r2 52 (by decide) (by decide))) (fun q a b => ?_)
      have a1 : N2 49 0 q = if q = x then M 45 0 x else N 49 0 q := by
        rw [e2, up3_r _ _ _ _ _ (by decide), e1]
        by_cases e : q = x
        · rw [e, up3_s, if_pos rfl, hr 45 (by decide) (by decide) (by decide)]
        · rw [up3_j _ _ _ _ _ e, if_neg e]
      have a2 : N2 50 0 q = if q = x then M 46 0 x else N 50 0 q := by
        rw [e2]
        by_cases e : q = x
        · rw [e, up3_s, if_pos rfl, e1, up3_r _ _ _ _ _ (by decide), hr 46 (by decide) (by decide) (by decide)]
        · rw [up3_j _ _ _ _ _ e, if_neg e, e1, up3_r _ _ _ _ _ (by decide)]
      rw [a1, a2]
      by_cases e : q = x
      · rw [if_pos e, if_pos e, e]; exact ⟨rfl, rfl⟩
      · rw [if_neg e, if_neg e]; exact hh q a (by omega)
  refine sgX8_greeds_0 C ⟨by rw [hF]; exact hf, fun N hA hH => ?_⟩
  rw [hF] at hH
  exact hand 7 0 N (by omega) (by omega) (fun r _ _ h3 => hA r h3) hH (fun q a b => by omega)
/-! ===== GapTellingsModel.greedy ===== -/
abbrev rmX8_greedy : Room := { frames := 5, cells := 0, slots := 0, locals := 127 }
abbrev argX8_greedy (a : Unit) : List PV := [.inr (30, 0)]
abbrev CtX8_greedy (sp : Mem → Kont → Prop) : Prop := Ct yX8_greedy cX8_greedy 1 (some .int) rmX8_greedy domM argX8_greedy (fun _ => sp)
theorem dX8_greedy_0 : decode cX8_greedy 0 = .ok (.aload_n 0, 1) := by decide +kernel
theorem dX8_greedy_1 : decode cX8_greedy 1 = .ok (.invokevirtual 187, 3) := by decide +kernel
theorem dX8_greedy_4 : decode cX8_greedy 4 = .ok (.ldc 163, 2) := by decide +kernel
theorem dX8_greedy_6 : decode cX8_greedy 6 = .ok (.iadd, 1) := by decide +kernel
theorem dX8_greedy_7 : decode cX8_greedy 7 = .ok (.ireturn, 1) := by decide +kernel
theorem ivX8_187 : IV RX8 187 yX8_greeds cX8_greeds 5 (some .int) 0 := ⟨(tb_mem (t_in5 (List.mem_of_getElem? (i := 153) (by decide +kernel))) (by decide +kernel)), (tb_mem (t_in5 (List.mem_of_getElem? (i := 155) (by decide +kernel))) (by decide +kernel)), (tb_sel (q := (⟨"GapTellingsModel", "greeds", "()I"⟩, 29)) (List.mem_of_getElem? (i := 32) (by decide +kernel)) (by decide +kernel)), (tb_mem (t_in1 (List.mem_of_getElem? (i := 16) (by decide +kernel))) (by decide +kernel)), (tb_mem (t_in5 (List.mem_of_getElem? (i := 156) (by decide +kernel))) (by decide +kernel)), ⟨by decide +kernel, by decide +kernel, by decide +kernel⟩⟩
set_option maxHeartbeats 4000000 in
set_option maxRecDepth 20000 in
theorem sgX8_greedy_0 {κ : Kx} {K : Kont} {M : Mem} (C : Cx κ RX8 cX8_greedy 1 (some .int) rmX8_greedy domM) 
    (h :
    spX8_greeds M (rI (fun r1 M1 =>
    inR (r1 + 100000) ∧
    K (some (r1 + 100000)) M1))) : V κ 1 M 0 [some (.inr (30, 0))] [] K := by
  refine v_aload_n C dX8_greedy_0 rfl ?_
  refine v_invV C ctX8_greeds dX8_greedy_1 ivX8_187 ⟨by decide, by decide, rfl, rfl⟩ (() : Unit) (As := []) rfl rfl rfl (by decide) rfl (st := []) rfl (Nat.le_of_ble_eq_true rfl) h (fun o M1 oM1 io1 g1 => ?_)
  replace h := rI_out g1
  clear g1
  obtain ⟨r1, rfl, h⟩ := h
  refine v_push ?_
  refine v_ldc C dX8_greedy_4 csX8_163 (by decide) ?_
  refine v_iadd C dX8_greedy_6 h.1 ?_
  replace h := h.2
  exact v_iret C dX8_greedy_7 h
abbrev spX8_greedy (M : Mem) (K : Kont) : Prop := InvM M ∧ ∀ M', InvM M' → ChM M M' (mFilm M) (M 45 0) (M 46 0) → K (some (grdA (mFilm M))) M'
theorem ctX8_greedy : CtX8_greedy spX8_greedy := by
  refine ct_of (by decide) dmM (fun _ => Nat.le_of_ble_eq_true rfl) ?_
  intro κ a M K C oM h
  obtain ⟨hI, hk⟩ := h
  have n3 := hI.2.1.2.2.2.1
  refine sgX8_greedy_0 C ⟨hI, fun N hA hE hG => ?_⟩
  have hr := vaC_rng hI.2.1 (gr0_c hI.2.1 FEq.rf).2 (mFilm M 3 0 0).toNat (by omega)
  exact ⟨by omega, hk N (hA.inv hE hI) (hA.ch hE)⟩
/-! ===== GapTellingsModel.greedyOf ===== -/
abbrev rmX8_greedyOf : Room := { frames := 5, cells := 0, slots := 0, locals := 127 }
abbrev argX8_greedyOf (a : Int × Int) : List PV := [.inr (30, 0), .inl a.1, .inl a.2]
abbrev CtX8_greedyOf (sp : Int → Int → Mem → Kont → Prop) : Prop := Ct yX8_greedyOf cX8_greedyOf 3 (some .int) rmX8_greedyOf domM argX8_greedyOf (fun a => sp a.1 a.2)
theorem dX8_greedyOf_0 : decode cX8_greedyOf 0 = .ok (.aload_n 0, 1) := by decide +kernel
theorem dX8_greedyOf_1 : decode cX8_greedyOf 1 = .ok (.iload_n 1, 1) := by decide +kernel
theorem dX8_greedyOf_2 : decode cX8_greedyOf 2 = .ok (.invokevirtual 144, 3) := by decide +kernel
theorem dX8_greedyOf_5 : decode cX8_greedyOf 5 = .ok (.ifCond .eq 12, 3) := by decide +kernel
theorem dX8_greedyOf_8 : decode cX8_greedyOf 8 = .ok (.iload_n 2, 1) := by decide +kernel
theorem dX8_greedyOf_9 : decode cX8_greedyOf 9 = .ok (.iconst 0, 1) := by decide +kernel
theorem dX8_greedyOf_10 : decode cX8_greedyOf 10 = .ok (.iconst 1, 1) := by decide +kernel
theorem dX8_greedyOf_11 : decode cX8_greedyOf 11 = .ok (.invokestatic 97, 3) := by decide +kernel
theorem dX8_greedyOf_14 : decode cX8_greedyOf 14 = .ok (.ifCond .ne 5, 3) := by decide +kernel
theorem dX8_greedyOf_17 : decode cX8_greedyOf 17 = .ok (.iconst (-1), 1) := by decide +kernel
theorem dX8_greedyOf_18 : decode cX8_greedyOf 18 = .ok (.ireturn, 1) := by decide +kernel
theorem dX8_greedyOf_19 : decode cX8_greedyOf 19 = .ok (.aload_n 0, 1) := by decide +kernel
theorem dX8_greedyOf_20 : decode cX8_greedyOf 20 = .ok (.invokevirtual 187, 3) := by decide +kernel
theorem dX8_greedyOf_23 : decode cX8_greedyOf 23 = .ok (.pop, 1) := by decide +kernel
theorem dX8_greedyOf_24 : decode cX8_greedyOf 24 = .ok (.iload_n 2, 1) := by decide +kernel
theorem dX8_greedyOf_25 : decode cX8_greedyOf 25 = .ok (.ifCond .ne 12, 3) := by decide +kernel
theorem dX8_greedyOf_28 : decode cX8_greedyOf 28 = .ok (.aload_n 0, 1) := by decide +kernel
theorem dX8_greedyOf_29 : decode cX8_greedyOf 29 = .ok (.getfield 34, 3) := by decide +kernel
theorem dX8_greedyOf_32 : decode cX8_greedyOf 32 = .ok (.iload_n 1, 1) := by decide +kernel
theorem dX8_greedyOf_33 : decode cX8_greedyOf 33 = .ok (.iaload, 1) := by decide +kernel
theorem dX8_greedyOf_34 : decode cX8_greedyOf 34 = .ok (.goto 9, 3) := by decide +kernel
theorem dX8_greedyOf_37 : decode cX8_greedyOf 37 = .ok (.aload_n 0, 1) := by decide +kernel
theorem dX8_greedyOf_38 : decode cX8_greedyOf 38 = .ok (.getfield 37, 3) := by decide +kernel
theorem dX8_greedyOf_41 : decode cX8_greedyOf 41 = .ok (.iload_n 1, 1) := by decide +kernel
theorem dX8_greedyOf_42 : decode cX8_greedyOf 42 = .ok (.iaload, 1) := by decide +kernel
theorem dX8_greedyOf_43 : decode cX8_greedyOf 43 = .ok (.ireturn, 1) := by decide +kernel
set_option maxHeartbeats 4000000 in
set_option maxRecDepth 20000 in
theorem sgX8_greedyOf_0 {κ : Kx} {K : Kont} {M : Mem} (C : Cx κ RX8 cX8_greedyOf 3 (some .int) rmX8_greedyOf domM) (x1 : Int) (x2 : Int)
    (h :
    spX8_isPicture x1 M (rI (fun r2 M2 =>
    ((r2 = 0 →
      K (some (-1)) M2) ∧
     (¬ (r2 = 0) →
      spX8_isIn x2 0 1 M2 (rI (fun r11 M11 =>
      ((r11 ≠ 0 →
        spX8_greeds M11 (rI (fun r20 M20 =>
        ((x2 ≠ 0 →
          (0 ≤ x1 ∧ x1 < 7) ∧
          K (some (M20 48 0 x1)) M20) ∧
         (¬ (x2 ≠ 0) →
          (0 ≤ x1 ∧ x1 < 7) ∧
          K (some (M20 47 0 x1)) M20))))) ∧
       (¬ (r11 ≠ 0) →
        K (some (-1)) M11))))))))) : V κ 3 M 0 [some (.inr (30, 0)), some (.inl x1), some (.inl x2)] [] K := by
  refine v_aload_n C dX8_greedyOf_0 rfl ?_
  refine v_iload_n C dX8_greedyOf_1 rfl ?_
  refine v_invV C ctX8_isPicture dX8_greedyOf_2 ivX8_144 ⟨by decide, by decide, rfl, rfl⟩ (x1 : Int) (As := [.inl x1]) rfl rfl rfl (by decide) rfl (st := []) rfl (Nat.le_of_ble_eq_true rfl) h (fun o M2 oM2 io2 g2 => ?_)
  replace h := rI_out g2
  clear g2
  obtain ⟨r2, rfl, h⟩ := h
  refine v_push ?_
  refine v_if C dX8_greedyOf_5 (tgt := 17) (by decide) (P := r2 = 0) rfl (fun c5 => ?_) (fun c5 => ?_)
  · replace h := h.1 c5
    refine v_iconst C dX8_greedyOf_17 (by decide) ?_
    exact v_iret C dX8_greedyOf_18 h
  · replace h := h.2 c5
    refine v_iload_n C dX8_greedyOf_8 rfl ?_
    refine v_iconst C dX8_greedyOf_9 (by decide) ?_
    refine v_iconst C dX8_greedyOf_10 (by decide) ?_
    refine v_invS C ctX8_isIn dX8_greedyOf_11 ivX8_97 ⟨by decide, by decide, rfl, rfl⟩ ((x2, 0, 1) : Int × Int × Int) rfl (st := []) rfl (Nat.le_of_ble_eq_true rfl) h (fun o M11 oM11 io11 g11 => ?_)
    replace h := rI_out g11
    clear g11
    obtain ⟨r11, rfl, h⟩ := h
    refine v_push ?_
    refine v_if C dX8_greedyOf_14 (tgt := 19) (by decide) (P := r11 ≠ 0) rfl (fun c14 => ?_) (fun c14 => ?_)
    · replace h := h.1 c14
      refine v_aload_n C dX8_greedyOf_19 rfl ?_
      refine v_invV C ctX8_greeds dX8_greedyOf_20 ivX8_187 ⟨by decide, by decide, rfl, rfl⟩ (() : Unit) (As := []) rfl rfl rfl (by decide) rfl (st := []) rfl (Nat.le_of_ble_eq_true rfl) h (fun o M20 oM20 io20 g20 => ?_)
      replace h := rI_out g20
      clear g20
      obtain ⟨r20, rfl, h⟩ := h
      refine v_push ?_
      refine v_pop C dX8_greedyOf_23 ?_
      refine v_iload_n C dX8_greedyOf_24 rfl ?_
      refine v_if C dX8_greedyOf_25 (tgt := 37) (by decide) (P := x2 ≠ 0) rfl (fun c25 => ?_) (fun c25 => ?_)
      · replace h := h.1 c25
        refine v_aload_n C dX8_greedyOf_37 rfl ?_
        refine v_get C dX8_greedyOf_38 flX8_37 rfl (by decide) (by decide) (w := .inr (48, 0)) rfl ?_
        refine v_iload_n C dX8_greedyOf_41 rfl ?_
        refine v_iald C dX8_greedyOf_42 rfl h.1.1 h.1.2 ?_
        replace h := h.2
        exact v_iret C dX8_greedyOf_43 h
      · replace h := h.2 c25
        refine v_aload_n C dX8_greedyOf_28 rfl ?_
        refine v_get C dX8_greedyOf_29 flX8_34 rfl (by decide) (by decide) (w := .inr (47, 0)) rfl ?_
        refine v_iload_n C dX8_greedyOf_32 rfl ?_
        refine v_iald C dX8_greedyOf_33 rfl h.1.1 h.1.2 ?_
        replace h := h.2
        refine v_goto C dX8_greedyOf_34 (tgt := 43) (by decide) ?_
        exact v_iret C dX8_greedyOf_43 h
    · replace h := h.2 c14
      refine v_iconst C dX8_greedyOf_17 (by decide) ?_
      exact v_iret C dX8_greedyOf_18 h
abbrev spX8_greedyOf (p w : Int) (M : Mem) (K : Kont) : Prop := InvM M ∧ (¬ ofK (mFilm M) p w → K (some (-1)) M) ∧ (ofK (mFilm M) p w → ∀ M', InvM M' → ChM M M' (mFilm M) (M 45 0) (M 46 0) → K (some (if w = 0 then (gr0 (mFilm M)).1 p else (gr0 (mFilm M)).2 p)) M')
theorem ctX8_greedyOf : CtX8_greedyOf spX8_greedyOf := by
  refine ct_of (by decide) dmM (fun _ => Nat.le_of_ble_eq_true rfl) ?_
  intro κ a M K C oM h
  obtain ⟨p, w⟩ := a
  dsimp only [spX8_greedyOf] at h
  obtain ⟨hI, k1, k2⟩ := h
  have n3 := hI.2.1.2.2.2.1
  refine sgX8_greedyOf_0 C p w ⟨n3, fun c => k1 (fun z => if10n c z.1), fun c => ?_⟩
  have c1 : 0 ≤ p ∧ p < mFilm M 3 0 0 := if10 c
  refine ⟨fun c2 => ?_, fun c2 => k1 (fun z => if10n (by omega) z.2)⟩
  have c3 := if10 c2
  refine ⟨hI, fun N hA hE hG => ?_⟩
  have := k2 ⟨c1, c3⟩ N (hA.inv hE hI) (hA.ch hE)
  have e := hG p c1.1 (by omega)
  refine ⟨fun c4 => ⟨by omega, ?_⟩, fun c4 => ⟨by omega, ?_⟩⟩
  · rw [if_neg c4, ← e.2] at this; exact this
  · rw [if_pos (by omega), ← e.1] at this; exact this
