/-! THE LAW: its check of all barges -/
def wB (r : Int → Int) (k : Int) : Int := r (70 + 8 * k)
def wG (r : Int → Int) (k : Int) : Int := r (69 + 8 * k)
def wS (r : Int → Int) (k : Int) : Int := r (72 + 8 * k)
theorem tA_y {r : Int → Int} {k : Int} (h : sDp r (r (71 + 8 * k)) < sDr r k) : tAgr r k = 1 := if_pos h
theorem tA_n {r : Int → Int} {k : Int} (h : ¬ sDp r (r (71 + 8 * k)) < sDr r k) : tAgr r k = 0 := if_neg h
theorem barges_end {G : JG} {S : JS} {D : JD} {d : Nat} {X t n q : Int} {hs : Int → Int → Int} {r : Int → Int} {l11 l12 l13 : Option JV} (hP : pSt S D X t n hs r q) (ht : t ≤ 60000) : JX G yL_barges cL_barges 14 (some .boolean) (d + 7) (0, 0) (0, 0) S D 208 [some (.inr (.inr (some X))), some (.inl (jsum (tAgr r) (r 2).toNat)), some (.inr (.inl (jsum (wB r) (r 2).toNat))), none, some (.inr (.inl (jsum (wG r) (r 2).toNat))), none, some (.inr (.inl (jsum (sW r) (r 2).toNat))), none, some (.inr (.inl (jsum (wS r) (r 2).toNat))), none, some (.inl (r 2)), l11, l12, l13] [] (jr (.inl 1) S D) := by
  have hB := hP.1
  have bk := hB.1
  have hI := hP.2.1.2.2.2.1
  have b1 := hI.1
  have e1 : jsum (fun k => r (70 + 8 * k)) (r 2).toNat = jsum (wB r) (r 2).toNat := rfl
  have e2 : jsum (fun k => r (69 + 8 * k)) (r 2).toNat = jsum (wG r) (r 2).toNat := rfl
  have e6 : jsum (fun k => r (72 + 8 * k)) (r 2).toNat = jsum (wS r) (r 2).toNat := rfl
  have B : ∀ k : Int, 0 ≤ k → k < (r 2).toNat → (0 ≤ tAgr r k ∧ tAgr r k ≤ 1) ∧ (0 ≤ wB r k ∧ wB r k ≤ 1000) ∧ (0 ≤ wG r k ∧ wG r k ≤ 1000) ∧ (0 ≤ sW r k ∧ sW r k ≤ 1500) ∧ (0 ≤ wS r k ∧ wS r k ≤ 60000) := fun k x y => by
    have q := hI.bB ht (k := k) ⟨x, by omega⟩
    unfold wB wG wS
    refine ⟨?_, by omega, by omega, by omega, by omega⟩
    unfold tAgr
    split <;> omega
  have n1 := jsum_nonneg (f := tAgr r) (n := (r 2).toNat) (fun k x y => (B k x y).1.1)
  have n2 := jsum_le (f := tAgr r) (M := 1) (n := (r 2).toNat) (fun k x y => (B k x y).1.2)
  have n3 := jsum_nonneg (f := wB r) (n := (r 2).toNat) (fun k x y => (B k x y).2.1.1)
  have n4 := jsum_le (f := wB r) (M := 1000) (n := (r 2).toNat) (fun k x y => (B k x y).2.1.2)
  have n5 := jsum_nonneg (f := wG r) (n := (r 2).toNat) (fun k x y => (B k x y).2.2.1.1)
  have n6 := jsum_le (f := wG r) (M := 1000) (n := (r 2).toNat) (fun k x y => (B k x y).2.2.1.2)
  have n7 := jsum_nonneg (f := sW r) (n := (r 2).toNat) (fun k x y => (B k x y).2.2.2.1.1)
  have n8 := jsum_le (f := sW r) (M := 1500) (n := (r 2).toNat) (fun k x y => (B k x y).2.2.2.1.2)
  have n9 := jsum_nonneg (f := wS r) (n := (r 2).toNat) (fun k x y => (B k x y).2.2.2.2.1)
  have n10 := jsum_le (f := wS r) (M := 60000) (n := (r 2).toNat) (fun k x y => (B k x y).2.2.2.2.2)
  clear B
  refine x_aload_n dL_barges_208 rfl ?_
  refine x_iconst dL_barges_209 ?_
  refine c_RL_18d dL_barges_210 rfl (tn_4 hP ht) bk (Nat.le_of_ble_eq_true rfl) (Nat.le_of_ble_eq_true rfl) ⟨Nat.le_refl _, Nat.le_refl _⟩ ?_
  refine x_iload_n dL_barges_213 rfl ?_
  refine x_ic_ne (tgt := 280) dL_barges_214 (by decide) ⟨by omega, by omega⟩ ⟨by omega, by omega⟩ (fun h => absurd h (by omega)) (fun hb214 => ?_)
  refine x_aload_n dL_barges_217 rfl ?_
  refine x_iconst dL_barges_218 ?_
  refine c_RL_42d dL_barges_219 rfl (ta_1 hP ht) bk (Nat.le_of_ble_eq_true rfl) (Nat.le_of_ble_eq_true rfl) ⟨Nat.le_refl _, Nat.le_refl _⟩ ?_
  rw [e1]
  refine x_lload_n dL_barges_222 rfl ?_
  refine x_lc_ne (tgt := 280) dL_barges_223 dL_barges_224 (by decide) ⟨by omega, by omega⟩ ⟨by omega, by omega⟩ (fun h => absurd h (by omega)) (fun hb224 => ?_)
  refine x_aload_n dL_barges_227 rfl ?_
  refine x_iconst dL_barges_228 ?_
  refine c_RL_42d dL_barges_229 rfl (ta_2 hP ht) bk (Nat.le_of_ble_eq_true rfl) (Nat.le_of_ble_eq_true rfl) ⟨Nat.le_refl _, Nat.le_refl _⟩ ?_
  rw [e2]
  refine x_lload dL_barges_232 rfl ?_
  refine x_lc_ne (tgt := 280) dL_barges_234 dL_barges_235 (by decide) ⟨by omega, by omega⟩ ⟨by omega, by omega⟩ (fun h => absurd h (by omega)) (fun hb235 => ?_)
  refine x_aload_n dL_barges_238 rfl ?_
  refine x_iconst dL_barges_239 ?_
  refine c_RL_42d dL_barges_240 rfl (ta_3 hP ht) bk (Nat.le_of_ble_eq_true rfl) (Nat.le_of_ble_eq_true rfl) ⟨Nat.le_refl _, Nat.le_refl _⟩ ?_
  refine x_lload dL_barges_243 rfl ?_
  refine x_lc_ne (tgt := 280) dL_barges_245 dL_barges_246 (by decide) ⟨by omega, by omega⟩ ⟨by omega, by omega⟩ (fun h => absurd h (by omega)) (fun hb246 => ?_)
  refine x_aload_n dL_barges_249 rfl ?_
  refine x_bipush dL_barges_250 (by decide) ?_
  refine c_RL_42d dL_barges_252 rfl (ta_6 hP ht) bk (Nat.le_of_ble_eq_true rfl) (Nat.le_of_ble_eq_true rfl) ⟨Nat.le_refl _, Nat.le_refl _⟩ ?_
  rw [e6]
  refine x_lload dL_barges_255 rfl ?_
  refine x_lc_ne (tgt := 280) dL_barges_257 dL_barges_258 (by decide) ⟨by omega, by omega⟩ ⟨by omega, by omega⟩ (fun h => absurd h (by omega)) (fun hb258 => ?_)
  refine x_aload_n dL_barges_261 rfl ?_
  refine x_aload_n dL_barges_262 rfl ?_
  refine x_iconst dL_barges_263 ?_
  refine c_RL_18d dL_barges_264 rfl (tn_2 hP ht) bk (Nat.le_of_ble_eq_true rfl) (Nat.le_of_ble_eq_true rfl) ⟨Nat.le_refl _, Nat.le_refl _⟩ ?_
  refine x_iconst dL_barges_267 ?_
  refine c_RL_22d dL_barges_268 rfl (tb_u hP ht ⟨by omega, by omega⟩ (by omega)) bk (Nat.le_of_ble_eq_true rfl) (Nat.le_of_ble_eq_true rfl) ⟨Nat.le_refl _, Nat.le_refl _⟩ ?_
  refine x_ldc (e := -100000001) dL_barges_271 ct_RL_48 (by decide) ?_
  refine x_ic_ne (tgt := 280) dL_barges_273 (by decide) ⟨by omega, by omega⟩ ⟨by omega, by omega⟩ (fun h => absurd h (by omega)) (fun hb273 => ?_)
  refine x_iconst dL_barges_276 ?_
  refine x_goto (tgt := 281) dL_barges_277 (by decide) ?_
  exact x_ireturn dL_barges_281 rfl (jbool (by first | exact Or.inl rfl | exact Or.inr rfl)).1 ⟨Nat.le_refl _, Nat.le_refl _⟩ ⟨rfl, rfl, rfl⟩
theorem barges_loop {G : JG} {S : JS} {D : JD} {d : Nat} {X t n q : Int} {hs : Int → Int → Int} {r : Int → Int} (hP : pSt S D X t n hs r q) (ht : t ≤ 60000) : ∀ (k i : Nat) (l11 l12 l13 : Option JV), (i : Int) + k = r 2 → JX G yL_barges cL_barges 14 (some .boolean) (d + 7) (0, 0) (0, 0) S D 16 [some (.inr (.inr (some X))), some (.inl (jsum (tAgr r) i)), some (.inr (.inl (jsum (wB r) i))), none, some (.inr (.inl (jsum (wG r) i))), none, some (.inr (.inl (jsum (sW r) i))), none, some (.inr (.inl (jsum (wS r) i))), none, some (.inl ((i : Int))), l11, l12, l13] [] (jr (.inl 1) S D) := by
  have hB := hP.1
  have bk := hB.1
  have hI := hP.2.1.2.2.2.1
  have b1 := hI.1
  intro k
  induction k with
  | zero =>
    intro i l11 l12 l13 hi
    have tl := barges_end (G := G) (d := d) (l11 := l11) (l12 := l12) (l13 := l13) hP ht
    rw [show (r 2).toNat = i by omega, show r 2 = (i : Int) by omega] at tl
    refine x_iload dL_barges_16 rfl ?_
    refine x_aload_n dL_barges_18 rfl ?_
    refine x_iconst dL_barges_19 ?_
    refine c_RL_18d dL_barges_20 rfl (tn_2 hP ht) bk (Nat.le_of_ble_eq_true rfl) (Nat.le_of_ble_eq_true rfl) ⟨Nat.le_refl _, Nat.le_refl _⟩ ?_
    refine x_ic_ge (tgt := 208) dL_barges_23 (by decide) ⟨by omega, by omega⟩ ⟨by omega, by omega⟩ (fun hb23 => ?_) (fun h => (h (by omega)).elim)
    exact tl
  | succ k ih =>
    intro i l11 l12 l13 hi
    have hk : 0 ≤ (i : Int) ∧ (i : Int) < r 2 := ⟨by omega, by omega⟩
    obtain ⟨k0, q0, q1, q2, q3, q4, q5, q6, q7, q8, q9, q10, q11, hp, q13, q14, q15, q16, q17, q18⟩ := hI.bB ht hk
    obtain ⟨p0, p1, v0, v1, w0, w1, f0, f1, c0, c1, a0, a1, g0, g1⟩ := hI.pB ht hp
    have dq : sLv r (r (71 + 8 * (i : Int))) = r (wA (r (71 + 8 * (i : Int))) + 1) + sDp r (r (71 + 8 * (i : Int))) := rfl
    have h2 := fun l11 l12 l13 => ih (i + 1) l11 l12 l13 (by omega)
    rw [jsum_nat, jsum_nat, jsum_nat, jsum_nat, jsum_nat, show (((i + 1 : Nat)) : Int) = (i : Int) + 1 by omega, show wB r (i : Int) = r (70 + 8 * (i : Int)) from rfl, show wG r (i : Int) = r (69 + 8 * (i : Int)) from rfl, show wS r (i : Int) = r (72 + 8 * (i : Int)) from rfl] at h2
    by_cases qa : sDp r (r (71 + 8 * (i : Int))) < sDr r i
    · have ta := tA_y qa
      rw [ta] at h2
      refine x_iload dL_barges_16 rfl ?_
      refine x_aload_n dL_barges_18 rfl ?_
      refine x_iconst dL_barges_19 ?_
      refine c_RL_18d dL_barges_20 rfl (tn_2 hP ht) bk (Nat.le_of_ble_eq_true rfl) (Nat.le_of_ble_eq_true rfl) ⟨Nat.le_refl _, Nat.le_refl _⟩ ?_
      refine x_ic_ge (tgt := 208) dL_barges_23 (by decide) ⟨by omega, by omega⟩ ⟨by omega, by omega⟩ (fun h => absurd h (by omega)) (fun hb23 => ?_)
      refine x_aload_n dL_barges_26 rfl ?_
      refine x_iload dL_barges_27 rfl ?_
      refine x_bipush dL_barges_29 (by decide) ?_
      refine c_RL_22d dL_barges_31 rfl (tb_7 hP ht hk) bk (Nat.le_of_ble_eq_true rfl) (Nat.le_of_ble_eq_true rfl) ⟨Nat.le_refl _, Nat.le_refl _⟩ ?_
      refine x_istore dL_barges_34 (by decide) ?_
      show JX _ _ _ _ _ _ _ _ _ _ _ [_, _, _, _, _, _, _, _, _, _, _, _, _, _] _ _
      refine x_aload_n dL_barges_36 rfl ?_
      refine x_iload dL_barges_37 rfl ?_
      refine x_iconst dL_barges_39 ?_
      refine c_RL_25d dL_barges_40 rfl (to_0 hP ht hp) (Nat.le_of_ble_eq_true rfl) (Nat.le_of_ble_eq_true rfl) ⟨Nat.le_refl _, Nat.le_refl _⟩ ?_
      refine x_aload_n dL_barges_43 rfl ?_
      refine x_iload dL_barges_44 rfl ?_
      refine x_iconst dL_barges_46 ?_
      refine c_RL_25d dL_barges_47 rfl (to_5 hP ht hp) (Nat.le_of_ble_eq_true rfl) (Nat.le_of_ble_eq_true rfl) ⟨Nat.le_refl _, Nat.le_refl _⟩ ?_
      refine x_isub dL_barges_50 ?_
      refine x_istore dL_barges_51 (by decide) ?_
      show JX _ _ _ _ _ _ _ _ _ _ _ [_, _, _, _, _, _, _, _, _, _, _, _, _, _] _ _
      refine x_iload dL_barges_53 rfl ?_
      refine x_aload_n dL_barges_55 rfl ?_
      refine x_iload dL_barges_56 rfl ?_
      refine x_iconst dL_barges_58 ?_
      refine c_RL_22d dL_barges_59 rfl (tb_2 hP ht hk) bk (Nat.le_of_ble_eq_true rfl) (Nat.le_of_ble_eq_true rfl) ⟨Nat.le_refl _, Nat.le_refl _⟩ ?_
      refine x_ic_ge (tgt := 69) dL_barges_62 (by decide) ⟨by omega, by omega⟩ ⟨by omega, by omega⟩ (fun h => absurd h (by omega)) (fun hb62 => ?_)
      refine x_iconst dL_barges_65 ?_
      refine x_goto (tgt := 70) dL_barges_66 (by decide) ?_
      refine x_istore dL_barges_70 (by decide) ?_
      show JX _ _ _ _ _ _ _ _ _ _ _ [_, _, _, _, _, _, _, _, _, _, _, _, _, _] _ _
      refine x_iload_n dL_barges_72 rfl ?_
      refine x_iload dL_barges_73 rfl ?_
      refine x_if_eq (tgt := 82) dL_barges_75 (by decide) ⟨by omega, by omega⟩ (fun h => absurd h (by omega)) (fun hb75 => ?_)
      refine x_iconst dL_barges_78 ?_
      refine x_goto (tgt := 83) dL_barges_79 (by decide) ?_
      refine x_iadd dL_barges_83 ?_
      refine x_istore_n dL_barges_84 (by decide) ?_
      show JX _ _ _ _ _ _ _ _ _ _ _ [_, _, _, _, _, _, _, _, _, _, _, _, _, _] _ _
      refine x_lload_n dL_barges_85 rfl ?_
      refine x_aload_n dL_barges_86 rfl ?_
      refine x_iload dL_barges_87 rfl ?_
      refine x_iconst dL_barges_89 ?_
      refine c_RL_22d dL_barges_90 rfl (tb_4 hP ht hk) bk (Nat.le_of_ble_eq_true rfl) (Nat.le_of_ble_eq_true rfl) ⟨Nat.le_refl _, Nat.le_refl _⟩ ?_
      refine x_i2l dL_barges_93 ⟨by omega, by omega⟩ ?_
      refine x_ladd dL_barges_94 ?_
      refine x_lstore_n dL_barges_95 (by decide) ?_
      show JX _ _ _ _ _ _ _ _ _ _ _ [_, _, _, _, _, _, _, _, _, _, _, _, _, _] _ _
      refine x_lload dL_barges_96 rfl ?_
      refine x_aload_n dL_barges_98 rfl ?_
      refine x_iload dL_barges_99 rfl ?_
      refine x_iconst dL_barges_101 ?_
      refine c_RL_22d dL_barges_102 rfl (tb_3 hP ht hk) bk (Nat.le_of_ble_eq_true rfl) (Nat.le_of_ble_eq_true rfl) ⟨Nat.le_refl _, Nat.le_refl _⟩ ?_
      refine x_i2l dL_barges_105 ⟨by omega, by omega⟩ ?_
      refine x_ladd dL_barges_106 ?_
      refine x_lstore dL_barges_107 (by decide) ?_
      show JX _ _ _ _ _ _ _ _ _ _ _ [_, _, _, _, _, _, _, _, _, _, _, _, _, _] _ _
      refine x_lload dL_barges_109 rfl ?_
      refine x_aload_n dL_barges_111 rfl ?_
      refine x_iload dL_barges_112 rfl ?_
      refine x_iconst dL_barges_114 ?_
      refine c_RL_22d dL_barges_115 rfl (tb_1 hP ht hk) bk (Nat.le_of_ble_eq_true rfl) (Nat.le_of_ble_eq_true rfl) ⟨Nat.le_refl _, Nat.le_refl _⟩ ?_
      refine x_i2l dL_barges_118 ⟨by omega, by omega⟩ ?_
      refine x_ladd dL_barges_119 ?_
      refine x_lstore dL_barges_120 (by decide) ?_
      show JX _ _ _ _ _ _ _ _ _ _ _ [_, _, _, _, _, _, _, _, _, _, _, _, _, _] _ _
      refine x_lload dL_barges_122 rfl ?_
      refine x_aload_n dL_barges_124 rfl ?_
      refine x_iload dL_barges_125 rfl ?_
      refine x_bipush dL_barges_127 (by decide) ?_
      refine c_RL_22d dL_barges_129 rfl (tb_8 hP ht hk) bk (Nat.le_of_ble_eq_true rfl) (Nat.le_of_ble_eq_true rfl) ⟨Nat.le_refl _, Nat.le_refl _⟩ ?_
      refine x_i2l dL_barges_132 ⟨by omega, by omega⟩ ?_
      refine x_ladd dL_barges_133 ?_
      refine x_lstore dL_barges_134 (by decide) ?_
      show JX _ _ _ _ _ _ _ _ _ _ _ [_, _, _, _, _, _, _, _, _, _, _, _, _, _] _ _
      refine x_aload_n dL_barges_136 rfl ?_
      refine x_iload dL_barges_137 rfl ?_
      refine x_bipush dL_barges_139 (by decide) ?_
      refine c_RL_22d dL_barges_141 rfl (tb_6 hP ht hk) bk (Nat.le_of_ble_eq_true rfl) (Nat.le_of_ble_eq_true rfl) ⟨Nat.le_refl _, Nat.le_refl _⟩ ?_
      rw [ta]
      refine x_iload dL_barges_144 rfl ?_
      refine x_if_eq (tgt := 153) dL_barges_146 (by decide) ⟨by omega, by omega⟩ (fun h => absurd h (by omega)) (fun hb146 => ?_)
      refine x_iconst dL_barges_149 ?_
      refine x_goto (tgt := 154) dL_barges_150 (by decide) ?_
      refine x_ic_ne (tgt := 200) dL_barges_154 (by decide) ⟨by omega, by omega⟩ ⟨by omega, by omega⟩ (fun h => absurd h (by omega)) (fun hb154 => ?_)
      refine x_aload_n dL_barges_157 rfl ?_
      refine x_iload dL_barges_158 rfl ?_
      refine x_iconst dL_barges_160 ?_
      refine c_RL_22d dL_barges_161 rfl (tb_3 hP ht hk) bk (Nat.le_of_ble_eq_true rfl) (Nat.le_of_ble_eq_true rfl) ⟨Nat.le_refl _, Nat.le_refl _⟩ ?_
      refine x_if_lt (tgt := 200) dL_barges_164 (by decide) ⟨by omega, by omega⟩ (fun h => absurd h (by omega)) (fun hb164 => ?_)
      refine x_aload_n dL_barges_167 rfl ?_
      refine x_iload dL_barges_168 rfl ?_
      refine x_iconst dL_barges_170 ?_
      refine c_RL_22d dL_barges_171 rfl (tb_4 hP ht hk) bk (Nat.le_of_ble_eq_true rfl) (Nat.le_of_ble_eq_true rfl) ⟨Nat.le_refl _, Nat.le_refl _⟩ ?_
      refine x_if_lt (tgt := 200) dL_barges_174 (by decide) ⟨by omega, by omega⟩ (fun h => absurd h (by omega)) (fun hb174 => ?_)
      refine x_aload_n dL_barges_177 rfl ?_
      refine x_iload dL_barges_178 rfl ?_
      refine x_iconst dL_barges_180 ?_
      refine c_RL_22d dL_barges_181 rfl (tb_5 hP ht hk) bk (Nat.le_of_ble_eq_true rfl) (Nat.le_of_ble_eq_true rfl) ⟨Nat.le_refl _, Nat.le_refl _⟩ ?_
      refine x_if_lt (tgt := 200) dL_barges_184 (by decide) ⟨by omega, by omega⟩ (fun h => absurd h (by omega)) (fun hb184 => ?_)
      refine x_aload_n dL_barges_187 rfl ?_
      refine x_iload dL_barges_188 rfl ?_
      refine x_bipush dL_barges_190 (by decide) ?_
      refine c_RL_22d dL_barges_192 rfl (tb_9 hP ht hk) bk (Nat.le_of_ble_eq_true rfl) (Nat.le_of_ble_eq_true rfl) ⟨Nat.le_refl _, Nat.le_refl _⟩ ?_
      refine x_ldc (e := -100000002) dL_barges_195 ct_RL_37 (by decide) ?_
      refine x_ic_eq (tgt := 202) dL_barges_197 (by decide) ⟨by omega, by omega⟩ ⟨by omega, by omega⟩ (fun hb197 => ?_) (fun h => (h (by omega)).elim)
      refine x_iinc dL_barges_202 rfl (by decide) ?_
      show JX _ _ _ _ _ _ _ _ _ _ _ [_, _, _, _, _, _, _, _, _, _, _, _, _, _] _ _
      refine x_goto (tgt := 16) dL_barges_205 (by decide) ?_
      exact h2 _ _ _
    · have ta := tA_n qa
      rw [ta] at h2
      refine x_iload dL_barges_16 rfl ?_
      refine x_aload_n dL_barges_18 rfl ?_
      refine x_iconst dL_barges_19 ?_
      refine c_RL_18d dL_barges_20 rfl (tn_2 hP ht) bk (Nat.le_of_ble_eq_true rfl) (Nat.le_of_ble_eq_true rfl) ⟨Nat.le_refl _, Nat.le_refl _⟩ ?_
      refine x_ic_ge (tgt := 208) dL_barges_23 (by decide) ⟨by omega, by omega⟩ ⟨by omega, by omega⟩ (fun h => absurd h (by omega)) (fun hb23 => ?_)
      refine x_aload_n dL_barges_26 rfl ?_
      refine x_iload dL_barges_27 rfl ?_
      refine x_bipush dL_barges_29 (by decide) ?_
      refine c_RL_22d dL_barges_31 rfl (tb_7 hP ht hk) bk (Nat.le_of_ble_eq_true rfl) (Nat.le_of_ble_eq_true rfl) ⟨Nat.le_refl _, Nat.le_refl _⟩ ?_
      refine x_istore dL_barges_34 (by decide) ?_
      show JX _ _ _ _ _ _ _ _ _ _ _ [_, _, _, _, _, _, _, _, _, _, _, _, _, _] _ _
      refine x_aload_n dL_barges_36 rfl ?_
      refine x_iload dL_barges_37 rfl ?_
      refine x_iconst dL_barges_39 ?_
      refine c_RL_25d dL_barges_40 rfl (to_0 hP ht hp) (Nat.le_of_ble_eq_true rfl) (Nat.le_of_ble_eq_true rfl) ⟨Nat.le_refl _, Nat.le_refl _⟩ ?_
      refine x_aload_n dL_barges_43 rfl ?_
      refine x_iload dL_barges_44 rfl ?_
      refine x_iconst dL_barges_46 ?_
      refine c_RL_25d dL_barges_47 rfl (to_5 hP ht hp) (Nat.le_of_ble_eq_true rfl) (Nat.le_of_ble_eq_true rfl) ⟨Nat.le_refl _, Nat.le_refl _⟩ ?_
      refine x_isub dL_barges_50 ?_
      refine x_istore dL_barges_51 (by decide) ?_
      show JX _ _ _ _ _ _ _ _ _ _ _ [_, _, _, _, _, _, _, _, _, _, _, _, _, _] _ _
      refine x_iload dL_barges_53 rfl ?_
      refine x_aload_n dL_barges_55 rfl ?_
      refine x_iload dL_barges_56 rfl ?_
      refine x_iconst dL_barges_58 ?_
      refine c_RL_22d dL_barges_59 rfl (tb_2 hP ht hk) bk (Nat.le_of_ble_eq_true rfl) (Nat.le_of_ble_eq_true rfl) ⟨Nat.le_refl _, Nat.le_refl _⟩ ?_
      refine x_ic_ge (tgt := 69) dL_barges_62 (by decide) ⟨by omega, by omega⟩ ⟨by omega, by omega⟩ (fun hb62 => ?_) (fun h => (h (by omega)).elim)
      refine x_iconst dL_barges_69 ?_
      refine x_istore dL_barges_70 (by decide) ?_
      show JX _ _ _ _ _ _ _ _ _ _ _ [_, _, _, _, _, _, _, _, _, _, _, _, _, _] _ _
      refine x_iload_n dL_barges_72 rfl ?_
      refine x_iload dL_barges_73 rfl ?_
      refine x_if_eq (tgt := 82) dL_barges_75 (by decide) ⟨by omega, by omega⟩ (fun hb75 => ?_) (fun h => (h (by omega)).elim)
      refine x_iconst dL_barges_82 ?_
      refine x_iadd dL_barges_83 ?_
      refine x_istore_n dL_barges_84 (by decide) ?_
      show JX _ _ _ _ _ _ _ _ _ _ _ [_, _, _, _, _, _, _, _, _, _, _, _, _, _] _ _
      refine x_lload_n dL_barges_85 rfl ?_
      refine x_aload_n dL_barges_86 rfl ?_
      refine x_iload dL_barges_87 rfl ?_
      refine x_iconst dL_barges_89 ?_
      refine c_RL_22d dL_barges_90 rfl (tb_4 hP ht hk) bk (Nat.le_of_ble_eq_true rfl) (Nat.le_of_ble_eq_true rfl) ⟨Nat.le_refl _, Nat.le_refl _⟩ ?_
      refine x_i2l dL_barges_93 ⟨by omega, by omega⟩ ?_
      refine x_ladd dL_barges_94 ?_
      refine x_lstore_n dL_barges_95 (by decide) ?_
      show JX _ _ _ _ _ _ _ _ _ _ _ [_, _, _, _, _, _, _, _, _, _, _, _, _, _] _ _
      refine x_lload dL_barges_96 rfl ?_
      refine x_aload_n dL_barges_98 rfl ?_
      refine x_iload dL_barges_99 rfl ?_
      refine x_iconst dL_barges_101 ?_
      refine c_RL_22d dL_barges_102 rfl (tb_3 hP ht hk) bk (Nat.le_of_ble_eq_true rfl) (Nat.le_of_ble_eq_true rfl) ⟨Nat.le_refl _, Nat.le_refl _⟩ ?_
      refine x_i2l dL_barges_105 ⟨by omega, by omega⟩ ?_
      refine x_ladd dL_barges_106 ?_
      refine x_lstore dL_barges_107 (by decide) ?_
      show JX _ _ _ _ _ _ _ _ _ _ _ [_, _, _, _, _, _, _, _, _, _, _, _, _, _] _ _
      refine x_lload dL_barges_109 rfl ?_
      refine x_aload_n dL_barges_111 rfl ?_
      refine x_iload dL_barges_112 rfl ?_
      refine x_iconst dL_barges_114 ?_
      refine c_RL_22d dL_barges_115 rfl (tb_1 hP ht hk) bk (Nat.le_of_ble_eq_true rfl) (Nat.le_of_ble_eq_true rfl) ⟨Nat.le_refl _, Nat.le_refl _⟩ ?_
      refine x_i2l dL_barges_118 ⟨by omega, by omega⟩ ?_
      refine x_ladd dL_barges_119 ?_
      refine x_lstore dL_barges_120 (by decide) ?_
      show JX _ _ _ _ _ _ _ _ _ _ _ [_, _, _, _, _, _, _, _, _, _, _, _, _, _] _ _
      refine x_lload dL_barges_122 rfl ?_
      refine x_aload_n dL_barges_124 rfl ?_
      refine x_iload dL_barges_125 rfl ?_
      refine x_bipush dL_barges_127 (by decide) ?_
      refine c_RL_22d dL_barges_129 rfl (tb_8 hP ht hk) bk (Nat.le_of_ble_eq_true rfl) (Nat.le_of_ble_eq_true rfl) ⟨Nat.le_refl _, Nat.le_refl _⟩ ?_
      refine x_i2l dL_barges_132 ⟨by omega, by omega⟩ ?_
      refine x_ladd dL_barges_133 ?_
      refine x_lstore dL_barges_134 (by decide) ?_
      show JX _ _ _ _ _ _ _ _ _ _ _ [_, _, _, _, _, _, _, _, _, _, _, _, _, _] _ _
      refine x_aload_n dL_barges_136 rfl ?_
      refine x_iload dL_barges_137 rfl ?_
      refine x_bipush dL_barges_139 (by decide) ?_
      refine c_RL_22d dL_barges_141 rfl (tb_6 hP ht hk) bk (Nat.le_of_ble_eq_true rfl) (Nat.le_of_ble_eq_true rfl) ⟨Nat.le_refl _, Nat.le_refl _⟩ ?_
      rw [ta]
      refine x_iload dL_barges_144 rfl ?_
      refine x_if_eq (tgt := 153) dL_barges_146 (by decide) ⟨by omega, by omega⟩ (fun hb146 => ?_) (fun h => (h (by omega)).elim)
      refine x_iconst dL_barges_153 ?_
      refine x_ic_ne (tgt := 200) dL_barges_154 (by decide) ⟨by omega, by omega⟩ ⟨by omega, by omega⟩ (fun h => absurd h (by omega)) (fun hb154 => ?_)
      refine x_aload_n dL_barges_157 rfl ?_
      refine x_iload dL_barges_158 rfl ?_
      refine x_iconst dL_barges_160 ?_
      refine c_RL_22d dL_barges_161 rfl (tb_3 hP ht hk) bk (Nat.le_of_ble_eq_true rfl) (Nat.le_of_ble_eq_true rfl) ⟨Nat.le_refl _, Nat.le_refl _⟩ ?_
      refine x_if_lt (tgt := 200) dL_barges_164 (by decide) ⟨by omega, by omega⟩ (fun h => absurd h (by omega)) (fun hb164 => ?_)
      refine x_aload_n dL_barges_167 rfl ?_
      refine x_iload dL_barges_168 rfl ?_
      refine x_iconst dL_barges_170 ?_
      refine c_RL_22d dL_barges_171 rfl (tb_4 hP ht hk) bk (Nat.le_of_ble_eq_true rfl) (Nat.le_of_ble_eq_true rfl) ⟨Nat.le_refl _, Nat.le_refl _⟩ ?_
      refine x_if_lt (tgt := 200) dL_barges_174 (by decide) ⟨by omega, by omega⟩ (fun h => absurd h (by omega)) (fun hb174 => ?_)
      refine x_aload_n dL_barges_177 rfl ?_
      refine x_iload dL_barges_178 rfl ?_
      refine x_iconst dL_barges_180 ?_
      refine c_RL_22d dL_barges_181 rfl (tb_5 hP ht hk) bk (Nat.le_of_ble_eq_true rfl) (Nat.le_of_ble_eq_true rfl) ⟨Nat.le_refl _, Nat.le_refl _⟩ ?_
      refine x_if_lt (tgt := 200) dL_barges_184 (by decide) ⟨by omega, by omega⟩ (fun h => absurd h (by omega)) (fun hb184 => ?_)
      refine x_aload_n dL_barges_187 rfl ?_
      refine x_iload dL_barges_188 rfl ?_
      refine x_bipush dL_barges_190 (by decide) ?_
      refine c_RL_22d dL_barges_192 rfl (tb_9 hP ht hk) bk (Nat.le_of_ble_eq_true rfl) (Nat.le_of_ble_eq_true rfl) ⟨Nat.le_refl _, Nat.le_refl _⟩ ?_
      refine x_ldc (e := -100000002) dL_barges_195 ct_RL_37 (by decide) ?_
      refine x_ic_eq (tgt := 202) dL_barges_197 (by decide) ⟨by omega, by omega⟩ ⟨by omega, by omega⟩ (fun hb197 => ?_) (fun h => (h (by omega)).elim)
      refine x_iinc dL_barges_202 rfl (by decide) ?_
      show JX _ _ _ _ _ _ _ _ _ _ _ [_, _, _, _, _, _, _, _, _, _, _, _, _, _] _ _
      refine x_goto (tgt := 16) dL_barges_205 (by decide) ?_
      exact h2 _ _ _
theorem kL_barges {G : JG} {S : JS} {D : JD} {d : Nat} {X t n q : Int} {hs : Int → Int → Int} {r : Int → Int} (hP : pSt S D X t n hs r q) (ht : t ≤ 60000) : JM G yL_barges cL_barges 14 (some .boolean) (d + 7) (0, 0) S D [.inr (.inr (some X))] (jr (.inl 1) S D) := by
  have hB := hP.1
  have bk := hB.1
  have hI := hP.2.1.2.2.2.1
  have b1 := hI.1
  show JX _ _ _ _ _ _ _ _ _ _ _ [_, _, _, _, _, _, _, _, _, _, _, _, _, _] _ _
  refine x_iconst dL_barges_0 ?_
  refine x_istore_n dL_barges_1 (by decide) ?_
  show JX _ _ _ _ _ _ _ _ _ _ _ [_, _, _, _, _, _, _, _, _, _, _, _, _, _] _ _
  refine x_lconst (e := 0) dL_barges_2 (by decide) ?_
  refine x_lstore_n dL_barges_3 (by decide) ?_
  show JX _ _ _ _ _ _ _ _ _ _ _ [_, _, _, _, _, _, _, _, _, _, _, _, _, _] _ _
  refine x_lconst (e := 0) dL_barges_4 (by decide) ?_
  refine x_lstore dL_barges_5 (by decide) ?_
  show JX _ _ _ _ _ _ _ _ _ _ _ [_, _, _, _, _, _, _, _, _, _, _, _, _, _] _ _
  refine x_lconst (e := 0) dL_barges_7 (by decide) ?_
  refine x_lstore dL_barges_8 (by decide) ?_
  show JX _ _ _ _ _ _ _ _ _ _ _ [_, _, _, _, _, _, _, _, _, _, _, _, _, _] _ _
  refine x_lconst (e := 0) dL_barges_10 (by decide) ?_
  refine x_lstore dL_barges_11 (by decide) ?_
  show JX _ _ _ _ _ _ _ _ _ _ _ [_, _, _, _, _, _, _, _, _, _, _, _, _, _] _ _
  refine x_iconst dL_barges_13 ?_
  refine x_istore dL_barges_14 (by decide) ?_
  show JX _ _ _ _ _ _ _ _ _ _ _ [_, _, _, _, _, _, _, _, _, _, _, _, _, _] _ _
  exact barges_loop hP ht (r 2).toNat 0 none none none (by omega)
