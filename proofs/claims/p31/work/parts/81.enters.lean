/-! THE LAW: enters -/
theorem enter_nums {t k c g : Int} {r : Int → Int} (hI : rIn t r) (hk : 0 ≤ k ∧ k < r 2) (hc : 0 ≤ c ∧ c < r 1) (hg : g = 0 ∨ g = 1) (hp : r (71 + 8 * k) = c + g) (hl : r (65 + 8 * k) ≤ sLf r c) :
    rIn (t + 1) (rEnter k c g r) ∧ pOff r (rEnter k c g r) ∧ sAll (rEnter k c g r) 1 = r 1 ∧ sAll (rEnter k c g r) 2 = r 2 ∧ sAll (rEnter k c g r) (71 + 8 * k) = 100 + c ∧ sAll (rEnter k c g r) (72 + 8 * k) = r (72 + 8 * k) + 1 ∧
    sAll (rEnter k c g r) (30 + 11 * c + g) = r (30 + 11 * c + g) + 1 ∧ sHg (sAll (rEnter k c g r)) c g = sHg r c g + (if (r (30 + 11 * c + g) + 1) % 8 = 0 then 1 else 0) ∧ sAll (rEnter k c g r) (161 + 13 * c) = r (161 + 13 * c) + 1 ∧
    (g = 0 → sAll (rEnter k c g r) (162 + 13 * c + 0) = k) ∧ (g = 1 → sAll (rEnter k c g r) (162 + 13 * c + r (161 + 13 * c)) = k) ∧ sLf (rEnter k c g r) c = sLf r c - r (65 + 8 * k) := by
  have b1 := hI.1
  have hpp : r (71 + 8 * k) ≠ 100 + c := by omega
  have e := psd_in (g := g) hI hc.1 hc.2 hk.1 hk.2 hpp
  have il : ∀ j : Int, 161 ≤ j → rEnter k c g r j = rLineIn c g k r j := fun j hj => in_line hI hc.1 hc.2 hg hk.1 hk.2 hj
  obtain ⟨n1, n2, n3, n4⟩ := in_num hI hc.1 hc.2 hg hk.1 hk.2 hpp
  have m := e.mvd ⟨hc.1, by omega⟩ hg hk.1 (by omega) n1
  have hI3 := hI.enter hc.1 hc.2 hg hk.1 hk.2 hp hl
  have hln := hI.line hc.1 hc.2
  have hf := m.lf hk.1 hk.2 c (e _ (by omega) (by omega) (by omega) (by omega) (by omega))
  rw [if_pos rfl, if_neg hpp] at hf
  have q1 : rEnter k c g r 1 = r 1 := e _ (by omega) (by omega) (by omega) (by omega) (by omega)
  have q2 : rEnter k c g r 2 = r 2 := e _ (by omega) (by omega) (by omega) (by omega) (by omega)
  have q25 : rEnter k c g r (25 + 11 * c + g) = r (25 + 11 * c + g) := e _ (by omega) (by omega) (by omega) (by omega) (by omega)
  have c4 : 0 ≤ c ∧ c < 4 := ⟨hc.1, by omega⟩
  refine ⟨hI3, pOff.psd hc.1 hg (by omega) hk.1 e, by rw [hI3.keep (by omega)]; exact q1, by rw [hI3.keep (by omega)]; exact q2, by rw [hI3.keep (by omega)]; exact n1, by rw [hI3.keep (by omega)]; exact n2, by rw [hI3.keepC (c := c) (z := 9 + g) c4 (by omega) (by omega)]; exact n3, ?_, by rw [hI3.keep (by omega), il _ (by omega), rLineIn_n], fun h => ?_, fun h => ?_, by omega⟩
  · unfold sHg
    rw [hI3.keepC (c := c) (z := 4 + g) c4 (by omega) (by omega), hI3.keepC (c := c) (z := 6 + g) c4 (by omega) (by omega), q25, n4]
    omega
  · subst h
    rw [hI3.keep (by omega), il _ (by omega), rLineIn_0 (by omega) (by omega), if_pos rfl]
  · subst h
    rw [hI3.keep (by omega), il _ (by omega), rLineIn_1 (by omega), if_pos rfl]
theorem enters_2 {G : JG} {S : JS} {D : JD} {d : Nat} {X t n q : Int} {hs : Int → Int → Int} {r : Int → Int} {e : Int} {k c : Int} (hP : pSt S D X t n hs r q) (hE : pIn e r) (t0 : 0 ≤ t) (ht2 : t + 100 ≤ 60000) (hk : 0 ≤ k ∧ k < r 2) (hc : 0 ≤ c ∧ c < r 1) (h2 : r (29 + 11 * c) < 0) : JM G yL_enters cL_enters 12 (some .boolean) (d + 7) (0, 0) S D [.inr (.inr (some X)), .inl k, .inl c] (jOK S X (t + 100) e (r 1) (r 2)) := by
  have ht : t ≤ 60000 := by omega
  have hB := hP.1
  have bk := hB.1
  have hI := hP.2.1.2.2.2.1
  have b1 := hI.1
  obtain ⟨c4, ln0, ln1, lf0, lf1, gt, s0, s1, s2, s3, sg, v0, v1, w0, w1, f0, f1, k0, k1, kk, a0, a1, g0, g1⟩ := hI.cB ht hc
  obtain ⟨bk0, q0, q1, q2, q3, q4, q5, q6, q7, q8, q9, q10, q11, bp, q13, q14, q15, q16, q17, q18⟩ := hI.bB ht hk
  have gA : (0 ≤ c ∧ c < r 1) ∧ (0 ≤ k ∧ k < r 2) := ⟨hc, hk⟩
  have hz : zEnter k c r = (-100000003, none, 2) := by unfold zEnter; rw [if_pos ⟨hk, hc⟩, if_pos h2]
  show JX _ _ _ _ _ _ _ _ _ _ _ [_, _, _, _, _, _, _, _, _, _, _, _] _ _
  refine x_aload_n dL_enters_0 rfl ?_
  refine x_iload_n dL_enters_1 rfl ?_
  refine x_bipush dL_enters_2 (by decide) ?_
  refine c_RL_15d dL_enters_4 rfl (tc_8 hP ht hc) bk (Nat.le_of_ble_eq_true rfl) (Nat.le_of_ble_eq_true rfl) ⟨Nat.le_refl _, Nat.le_refl _⟩ ?_
  refine x_istore_n dL_enters_7 (by decide) ?_
  show JX _ _ _ _ _ _ _ _ _ _ _ [_, _, _, _, _, _, _, _, _, _, _, _] _ _
  refine x_iload_n dL_enters_8 rfl ?_
  refine x_iload_n dL_enters_9 rfl ?_
  refine x_if_ge (tgt := 17) dL_enters_10 (by decide) ⟨by omega, by omega⟩ (fun h => absurd h (by omega)) (fun hb10 => ?_)
  refine x_iconst dL_enters_13 ?_
  refine x_goto (tgt := 18) dL_enters_14 (by decide) ?_
  refine x_iadd dL_enters_18 ?_
  refine x_istore dL_enters_19 (by decide) ?_
  show JX _ _ _ _ _ _ _ _ _ _ _ [_, _, _, _, _, _, _, _, _, _, _, _] _ _
  refine x_aload_n dL_enters_21 rfl ?_
  refine x_iload_n dL_enters_22 rfl ?_
  refine x_iconst dL_enters_23 ?_
  refine c_RL_15d dL_enters_24 rfl (tc_3 hP ht hc) bk (Nat.le_of_ble_eq_true rfl) (Nat.le_of_ble_eq_true rfl) ⟨Nat.le_refl _, Nat.le_refl _⟩ ?_
  refine x_istore dL_enters_27 (by decide) ?_
  show JX _ _ _ _ _ _ _ _ _ _ _ [_, _, _, _, _, _, _, _, _, _, _, _] _ _
  refine x_iload_n dL_enters_29 rfl ?_
  refine x_if_ge (tgt := 37) dL_enters_30 (by decide) ⟨by omega, by omega⟩ (fun h => absurd h (by omega)) (fun hb30 => ?_)
  refine x_iconst dL_enters_33 ?_
  refine x_goto (tgt := 127) dL_enters_34 (by decide) ?_
  refine x_istore dL_enters_127 (by decide) ?_
  show JX _ _ _ _ _ _ _ _ _ _ _ [_, _, _, _, _, _, _, _, _, _, _, _] _ _
  refine x_aload_n dL_enters_129 rfl ?_
  refine x_iload_n dL_enters_130 rfl ?_
  refine x_bipush dL_enters_131 (by decide) ?_
  refine c_RL_15d dL_enters_133 rfl (tc_7 hP ht hc) bk (Nat.le_of_ble_eq_true rfl) (Nat.le_of_ble_eq_true rfl) ⟨Nat.le_refl _, Nat.le_refl _⟩ ?_
  refine x_aload_n dL_enters_136 rfl ?_
  refine x_iload_n dL_enters_137 rfl ?_
  refine x_iconst dL_enters_138 ?_
  refine c_RL_22d dL_enters_139 rfl (tb_0 hP ht hk) bk (Nat.le_of_ble_eq_true rfl) (Nat.le_of_ble_eq_true rfl) ⟨Nat.le_refl _, Nat.le_refl _⟩ ?_
  refine x_isub dL_enters_142 ?_
  refine x_istore dL_enters_143 (by decide) ?_
  show JX _ _ _ _ _ _ _ _ _ _ _ [_, _, _, _, _, _, _, _, _, _, _, _] _ _
  refine x_iload_n dL_enters_145 rfl ?_
  refine x_if_ge (tgt := 153) dL_enters_146 (by decide) ⟨by omega, by omega⟩ (fun h => absurd h (by omega)) (fun hb146 => ?_)
  refine x_iconst dL_enters_149 ?_
  refine x_goto (tgt := 162) dL_enters_150 (by decide) ?_
  refine x_istore dL_enters_162 (by decide) ?_
  show JX _ _ _ _ _ _ _ _ _ _ _ [_, _, _, _, _, _, _, _, _, _, _, _] _ _
  refine x_iload_n dL_enters_164 rfl ?_
  refine x_if_ge (tgt := 172) dL_enters_165 (by decide) ⟨by omega, by omega⟩ (fun h => absurd h (by omega)) (fun hb165 => ?_)
  refine x_iconst dL_enters_168 ?_
  refine x_goto (tgt := 181) dL_enters_169 (by decide) ?_
  refine x_istore dL_enters_181 (by decide) ?_
  show JX _ _ _ _ _ _ _ _ _ _ _ [_, _, _, _, _, _, _, _, _, _, _, _] _ _
  refine x_aload_n dL_enters_183 rfl ?_
  refine x_iload_n dL_enters_184 rfl ?_
  refine x_bipush dL_enters_185 (by decide) ?_
  refine c_RL_22d dL_enters_187 rfl (tb_8 hP ht hk) bk (Nat.le_of_ble_eq_true rfl) (Nat.le_of_ble_eq_true rfl) ⟨Nat.le_refl _, Nat.le_refl _⟩ ?_
  refine x_istore dL_enters_190 (by decide) ?_
  show JX _ _ _ _ _ _ _ _ _ _ _ [_, _, _, _, _, _, _, _, _, _, _, _] _ _
  refine x_aload_n dL_enters_192 rfl ?_
  refine x_iload_n dL_enters_193 rfl ?_
  refine x_iload_n dL_enters_194 rfl ?_
  refine c_RL_66p dL_enters_195 rfl (kX7_enter hP.1 (Or.inl rfl) hP.2.1 ht2 ⟨by omega, by omega⟩ ⟨by omega, by omega⟩) bk (Nat.le_of_ble_eq_true rfl) (Nat.le_of_ble_eq_true rfl) ⟨Nat.le_refl _, Nat.le_refl _⟩ (fun w2 D2 h2 => ?_)
  obtain ⟨rfl, hP2⟩ := hP.ref hz (by decide) h2
  refine x_istore dL_enters_198 (by decide) ?_
  show JX _ _ _ _ _ _ _ _ _ _ _ [_, _, _, _, _, _, _, _, _, _, _, _] _ _
  refine x_iload dL_enters_200 rfl ?_
  refine x_if_le (tgt := 240) dL_enters_202 (by decide) ⟨by omega, by omega⟩ (fun h => absurd h (by omega)) (fun hb202 => ?_)
  refine x_iload dL_enters_205 rfl ?_
  refine x_ldc (e := -100000003) dL_enters_207 ct_RL_59 (by decide) ?_
  refine x_ic_ne (tgt := 238) dL_enters_209 (by decide) ⟨by omega, by omega⟩ ⟨by omega, by omega⟩ (fun h => absurd h (by omega)) (fun hb209 => ?_)
  refine x_aload_n dL_enters_212 rfl ?_
  refine x_bipush dL_enters_213 (by decide) ?_
  refine c_RL_18d dL_enters_215 rfl (tn_7 hP2 ht2) bk (Nat.le_of_ble_eq_true rfl) (Nat.le_of_ble_eq_true rfl) ⟨Nat.le_refl _, Nat.le_refl _⟩ ?_
  refine x_iload dL_enters_218 rfl ?_
  refine x_ic_ne (tgt := 238) dL_enters_220 (by decide) ⟨by omega, by omega⟩ ⟨by omega, by omega⟩ (fun h => absurd h (by omega)) (fun hb220 => ?_)
  refine x_aload_n dL_enters_223 rfl ?_
  refine x_iload_n dL_enters_224 rfl ?_
  refine x_iconst dL_enters_225 ?_
  refine c_RL_15d dL_enters_226 rfl (tc_3 hP2 ht2 hc) bk (Nat.le_of_ble_eq_true rfl) (Nat.le_of_ble_eq_true rfl) ⟨Nat.le_refl _, Nat.le_refl _⟩ ?_
  refine x_iload dL_enters_229 rfl ?_
  refine x_ic_ne (tgt := 238) dL_enters_231 (by decide) ⟨by omega, by omega⟩ ⟨by omega, by omega⟩ (fun h => absurd h (by omega)) (fun hb231 => ?_)
  refine x_iconst dL_enters_234 ?_
  refine x_goto (tgt := 239) dL_enters_235 (by decide) ?_
  exact x_ireturn dL_enters_239 rfl (jbool (by first | exact Or.inl rfl | exact Or.inr rfl)).1 ⟨Nat.le_refl _, Nat.le_refl _⟩ ⟨rfl, _, rfl, rfl, _, _, _, _, hP2, hE, rfl, rfl⟩
theorem enters_4 {G : JG} {S : JS} {D : JD} {d : Nat} {X t n q : Int} {hs : Int → Int → Int} {r : Int → Int} {e : Int} {k c : Int} (hP : pSt S D X t n hs r q) (hE : pIn e r) (t0 : 0 ≤ t) (ht2 : t + 100 ≤ 60000) (hk : 0 ≤ k ∧ k < r 2) (hc : 0 ≤ c ∧ c < r 1) (h2 : ¬ r (29 + 11 * c) < 0) (h4 : r (71 + 8 * k) ≠ c + r (29 + 11 * c)) : JM G yL_enters cL_enters 12 (some .boolean) (d + 7) (0, 0) S D [.inr (.inr (some X)), .inl k, .inl c] (jOK S X (t + 100) e (r 1) (r 2)) := by
  have ht : t ≤ 60000 := by omega
  have hB := hP.1
  have bk := hB.1
  have hI := hP.2.1.2.2.2.1
  have b1 := hI.1
  obtain ⟨c4, ln0, ln1, lf0, lf1, gt, s0, s1, s2, s3, sg, v0, v1, w0, w1, f0, f1, k0, k1, kk, a0, a1, g0, g1⟩ := hI.cB ht hc
  obtain ⟨bk0, q0, q1, q2, q3, q4, q5, q6, q7, q8, q9, q10, q11, bp, q13, q14, q15, q16, q17, q18⟩ := hI.bB ht hk
  have gA : (0 ≤ c ∧ c < r 1) ∧ (0 ≤ k ∧ k < r 2) := ⟨hc, hk⟩
  have hgt : r (29 + 11 * c) = 0 ∨ r (29 + 11 * c) = 1 := by omega
  have sgg := sg (r (29 + 11 * c)) hgt
  have pg : 0 ≤ r (30 + 11 * c + r (29 + 11 * c)) ∧ r (30 + 11 * c + r (29 + 11 * c)) ≤ 60000 := by
    rcases hgt with q | q
    · rw [q, show 30 + 11 * c + 0 = 30 + 11 * c by omega]; omega
    · rw [q, show 30 + 11 * c + 1 = 31 + 11 * c by omega]; omega
  have hz : zEnter k c r = (-100000003, none, 4) := by unfold zEnter; rw [if_pos ⟨hk, hc⟩, if_neg h2, if_pos h4]
  show JX _ _ _ _ _ _ _ _ _ _ _ [_, _, _, _, _, _, _, _, _, _, _, _] _ _
  refine x_aload_n dL_enters_0 rfl ?_
  refine x_iload_n dL_enters_1 rfl ?_
  refine x_bipush dL_enters_2 (by decide) ?_
  refine c_RL_15d dL_enters_4 rfl (tc_8 hP ht hc) bk (Nat.le_of_ble_eq_true rfl) (Nat.le_of_ble_eq_true rfl) ⟨Nat.le_refl _, Nat.le_refl _⟩ ?_
  refine x_istore_n dL_enters_7 (by decide) ?_
  show JX _ _ _ _ _ _ _ _ _ _ _ [_, _, _, _, _, _, _, _, _, _, _, _] _ _
  refine x_iload_n dL_enters_8 rfl ?_
  refine x_iload_n dL_enters_9 rfl ?_
  refine x_if_ge (tgt := 17) dL_enters_10 (by decide) ⟨by omega, by omega⟩ (fun hb10 => ?_) (fun h => (h (by omega)).elim)
  refine x_iload_n dL_enters_17 rfl ?_
  refine x_iadd dL_enters_18 ?_
  refine x_istore dL_enters_19 (by decide) ?_
  show JX _ _ _ _ _ _ _ _ _ _ _ [_, _, _, _, _, _, _, _, _, _, _, _] _ _
  refine x_aload_n dL_enters_21 rfl ?_
  refine x_iload_n dL_enters_22 rfl ?_
  refine x_iconst dL_enters_23 ?_
  refine c_RL_15d dL_enters_24 rfl (tc_3 hP ht hc) bk (Nat.le_of_ble_eq_true rfl) (Nat.le_of_ble_eq_true rfl) ⟨Nat.le_refl _, Nat.le_refl _⟩ ?_
  refine x_istore dL_enters_27 (by decide) ?_
  show JX _ _ _ _ _ _ _ _ _ _ _ [_, _, _, _, _, _, _, _, _, _, _, _] _ _
  refine x_iload_n dL_enters_29 rfl ?_
  refine x_if_ge (tgt := 37) dL_enters_30 (by decide) ⟨by omega, by omega⟩ (fun hb30 => ?_) (fun h => (h (by omega)).elim)
  refine x_aload_n dL_enters_37 rfl ?_
  refine x_iload_n dL_enters_38 rfl ?_
  refine x_bipush dL_enters_39 (by decide) ?_
  refine c_RL_22d dL_enters_41 rfl (tb_7 hP ht hk) bk (Nat.le_of_ble_eq_true rfl) (Nat.le_of_ble_eq_true rfl) ⟨Nat.le_refl _, Nat.le_refl _⟩ ?_
  refine x_iload dL_enters_44 rfl ?_
  refine x_ic_eq (tgt := 53) dL_enters_46 (by decide) ⟨by omega, by omega⟩ ⟨by omega, by omega⟩ (fun h => absurd h (by omega)) (fun hb46 => ?_)
  refine x_iconst dL_enters_49 ?_
  refine x_goto (tgt := 127) dL_enters_50 (by decide) ?_
  refine x_istore dL_enters_127 (by decide) ?_
  show JX _ _ _ _ _ _ _ _ _ _ _ [_, _, _, _, _, _, _, _, _, _, _, _] _ _
  refine x_aload_n dL_enters_129 rfl ?_
  refine x_iload_n dL_enters_130 rfl ?_
  refine x_bipush dL_enters_131 (by decide) ?_
  refine c_RL_15d dL_enters_133 rfl (tc_7 hP ht hc) bk (Nat.le_of_ble_eq_true rfl) (Nat.le_of_ble_eq_true rfl) ⟨Nat.le_refl _, Nat.le_refl _⟩ ?_
  refine x_aload_n dL_enters_136 rfl ?_
  refine x_iload_n dL_enters_137 rfl ?_
  refine x_iconst dL_enters_138 ?_
  refine c_RL_22d dL_enters_139 rfl (tb_0 hP ht hk) bk (Nat.le_of_ble_eq_true rfl) (Nat.le_of_ble_eq_true rfl) ⟨Nat.le_refl _, Nat.le_refl _⟩ ?_
  refine x_isub dL_enters_142 ?_
  refine x_istore dL_enters_143 (by decide) ?_
  show JX _ _ _ _ _ _ _ _ _ _ _ [_, _, _, _, _, _, _, _, _, _, _, _] _ _
  refine x_iload_n dL_enters_145 rfl ?_
  refine x_if_ge (tgt := 153) dL_enters_146 (by decide) ⟨by omega, by omega⟩ (fun hb146 => ?_) (fun h => (h (by omega)).elim)
  refine x_aload_n dL_enters_153 rfl ?_
  refine x_iload_n dL_enters_154 rfl ?_
  refine x_bipush dL_enters_155 (by decide) ?_
  refine x_iload_n dL_enters_157 rfl ?_
  refine x_iadd dL_enters_158 ?_
  refine c_RL_15d dL_enters_159 rfl (tc_p hP ht hc hgt) bk (Nat.le_of_ble_eq_true rfl) (Nat.le_of_ble_eq_true rfl) ⟨Nat.le_refl _, Nat.le_refl _⟩ ?_
  refine x_istore dL_enters_162 (by decide) ?_
  show JX _ _ _ _ _ _ _ _ _ _ _ [_, _, _, _, _, _, _, _, _, _, _, _] _ _
  refine x_iload_n dL_enters_164 rfl ?_
  refine x_if_ge (tgt := 172) dL_enters_165 (by decide) ⟨by omega, by omega⟩ (fun hb165 => ?_) (fun h => (h (by omega)).elim)
  refine x_aload_n dL_enters_172 rfl ?_
  refine x_iload_n dL_enters_173 rfl ?_
  refine x_bipush dL_enters_174 (by decide) ?_
  refine x_iload_n dL_enters_176 rfl ?_
  refine x_iadd dL_enters_177 ?_
  refine c_RL_15d dL_enters_178 rfl (tc_s hP ht hc hgt) bk (Nat.le_of_ble_eq_true rfl) (Nat.le_of_ble_eq_true rfl) ⟨Nat.le_refl _, Nat.le_refl _⟩ ?_
  refine x_istore dL_enters_181 (by decide) ?_
  show JX _ _ _ _ _ _ _ _ _ _ _ [_, _, _, _, _, _, _, _, _, _, _, _] _ _
  refine x_aload_n dL_enters_183 rfl ?_
  refine x_iload_n dL_enters_184 rfl ?_
  refine x_bipush dL_enters_185 (by decide) ?_
  refine c_RL_22d dL_enters_187 rfl (tb_8 hP ht hk) bk (Nat.le_of_ble_eq_true rfl) (Nat.le_of_ble_eq_true rfl) ⟨Nat.le_refl _, Nat.le_refl _⟩ ?_
  refine x_istore dL_enters_190 (by decide) ?_
  show JX _ _ _ _ _ _ _ _ _ _ _ [_, _, _, _, _, _, _, _, _, _, _, _] _ _
  refine x_aload_n dL_enters_192 rfl ?_
  refine x_iload_n dL_enters_193 rfl ?_
  refine x_iload_n dL_enters_194 rfl ?_
  refine c_RL_66p dL_enters_195 rfl (kX7_enter hP.1 (Or.inl rfl) hP.2.1 ht2 ⟨by omega, by omega⟩ ⟨by omega, by omega⟩) bk (Nat.le_of_ble_eq_true rfl) (Nat.le_of_ble_eq_true rfl) ⟨Nat.le_refl _, Nat.le_refl _⟩ (fun w2 D2 h2 => ?_)
  obtain ⟨rfl, hP2⟩ := hP.ref hz (by decide) h2
  refine x_istore dL_enters_198 (by decide) ?_
  show JX _ _ _ _ _ _ _ _ _ _ _ [_, _, _, _, _, _, _, _, _, _, _, _] _ _
  refine x_iload dL_enters_200 rfl ?_
  refine x_if_le (tgt := 240) dL_enters_202 (by decide) ⟨by omega, by omega⟩ (fun h => absurd h (by omega)) (fun hb202 => ?_)
  refine x_iload dL_enters_205 rfl ?_
  refine x_ldc (e := -100000003) dL_enters_207 ct_RL_59 (by decide) ?_
  refine x_ic_ne (tgt := 238) dL_enters_209 (by decide) ⟨by omega, by omega⟩ ⟨by omega, by omega⟩ (fun h => absurd h (by omega)) (fun hb209 => ?_)
  refine x_aload_n dL_enters_212 rfl ?_
  refine x_bipush dL_enters_213 (by decide) ?_
  refine c_RL_18d dL_enters_215 rfl (tn_7 hP2 ht2) bk (Nat.le_of_ble_eq_true rfl) (Nat.le_of_ble_eq_true rfl) ⟨Nat.le_refl _, Nat.le_refl _⟩ ?_
  refine x_iload dL_enters_218 rfl ?_
  refine x_ic_ne (tgt := 238) dL_enters_220 (by decide) ⟨by omega, by omega⟩ ⟨by omega, by omega⟩ (fun h => absurd h (by omega)) (fun hb220 => ?_)
  refine x_aload_n dL_enters_223 rfl ?_
  refine x_iload_n dL_enters_224 rfl ?_
  refine x_iconst dL_enters_225 ?_
  refine c_RL_15d dL_enters_226 rfl (tc_3 hP2 ht2 hc) bk (Nat.le_of_ble_eq_true rfl) (Nat.le_of_ble_eq_true rfl) ⟨Nat.le_refl _, Nat.le_refl _⟩ ?_
  refine x_iload dL_enters_229 rfl ?_
  refine x_ic_ne (tgt := 238) dL_enters_231 (by decide) ⟨by omega, by omega⟩ ⟨by omega, by omega⟩ (fun h => absurd h (by omega)) (fun hb231 => ?_)
  refine x_iconst dL_enters_234 ?_
  refine x_goto (tgt := 239) dL_enters_235 (by decide) ?_
  exact x_ireturn dL_enters_239 rfl (jbool (by first | exact Or.inl rfl | exact Or.inr rfl)).1 ⟨Nat.le_refl _, Nat.le_refl _⟩ ⟨rfl, _, rfl, rfl, _, _, _, _, hP2, hE, rfl, rfl⟩
theorem enters_5 {G : JG} {S : JS} {D : JD} {d : Nat} {X t n q : Int} {hs : Int → Int → Int} {r : Int → Int} {e : Int} {k c : Int} (hP : pSt S D X t n hs r q) (hE : pIn e r) (t0 : 0 ≤ t) (ht2 : t + 100 ≤ 60000) (hk : 0 ≤ k ∧ k < r 2) (hc : 0 ≤ c ∧ c < r 1) (h2 : ¬ r (29 + 11 * c) < 0) (h4 : ¬ r (71 + 8 * k) ≠ c + r (29 + 11 * c)) (h5 : gAgr r k) : JM G yL_enters cL_enters 12 (some .boolean) (d + 7) (0, 0) S D [.inr (.inr (some X)), .inl k, .inl c] (jOK S X (t + 100) e (r 1) (r 2)) := by
  have ht : t ≤ 60000 := by omega
  have hB := hP.1
  have bk := hB.1
  have hI := hP.2.1.2.2.2.1
  have b1 := hI.1
  obtain ⟨c4, ln0, ln1, lf0, lf1, gt, s0, s1, s2, s3, sg, v0, v1, w0, w1, f0, f1, k0, k1, kk, a0, a1, g0, g1⟩ := hI.cB ht hc
  obtain ⟨bk0, q0, q1, q2, q3, q4, q5, q6, q7, q8, q9, q10, q11, bp, q13, q14, q15, q16, q17, q18⟩ := hI.bB ht hk
  have gA : (0 ≤ c ∧ c < r 1) ∧ (0 ≤ k ∧ k < r 2) := ⟨hc, hk⟩
  have hgt : r (29 + 11 * c) = 0 ∨ r (29 + 11 * c) = 1 := by omega
  have sgg := sg (r (29 + 11 * c)) hgt
  have pg : 0 ≤ r (30 + 11 * c + r (29 + 11 * c)) ∧ r (30 + 11 * c + r (29 + 11 * c)) ≤ 60000 := by
    rcases hgt with q | q
    · rw [q, show 30 + 11 * c + 0 = 30 + 11 * c by omega]; omega
    · rw [q, show 30 + 11 * c + 1 = 31 + 11 * c by omega]; omega
  have ta := tA_y h5
  have hz : zEnter k c r = (-100000003, none, 5) := by unfold zEnter; rw [if_pos ⟨hk, hc⟩, if_neg h2, if_neg h4, if_pos h5]
  show JX _ _ _ _ _ _ _ _ _ _ _ [_, _, _, _, _, _, _, _, _, _, _, _] _ _
  refine x_aload_n dL_enters_0 rfl ?_
  refine x_iload_n dL_enters_1 rfl ?_
  refine x_bipush dL_enters_2 (by decide) ?_
  refine c_RL_15d dL_enters_4 rfl (tc_8 hP ht hc) bk (Nat.le_of_ble_eq_true rfl) (Nat.le_of_ble_eq_true rfl) ⟨Nat.le_refl _, Nat.le_refl _⟩ ?_
  refine x_istore_n dL_enters_7 (by decide) ?_
  show JX _ _ _ _ _ _ _ _ _ _ _ [_, _, _, _, _, _, _, _, _, _, _, _] _ _
  refine x_iload_n dL_enters_8 rfl ?_
  refine x_iload_n dL_enters_9 rfl ?_
  refine x_if_ge (tgt := 17) dL_enters_10 (by decide) ⟨by omega, by omega⟩ (fun hb10 => ?_) (fun h => (h (by omega)).elim)
  refine x_iload_n dL_enters_17 rfl ?_
  refine x_iadd dL_enters_18 ?_
  refine x_istore dL_enters_19 (by decide) ?_
  show JX _ _ _ _ _ _ _ _ _ _ _ [_, _, _, _, _, _, _, _, _, _, _, _] _ _
  refine x_aload_n dL_enters_21 rfl ?_
  refine x_iload_n dL_enters_22 rfl ?_
  refine x_iconst dL_enters_23 ?_
  refine c_RL_15d dL_enters_24 rfl (tc_3 hP ht hc) bk (Nat.le_of_ble_eq_true rfl) (Nat.le_of_ble_eq_true rfl) ⟨Nat.le_refl _, Nat.le_refl _⟩ ?_
  refine x_istore dL_enters_27 (by decide) ?_
  show JX _ _ _ _ _ _ _ _ _ _ _ [_, _, _, _, _, _, _, _, _, _, _, _] _ _
  refine x_iload_n dL_enters_29 rfl ?_
  refine x_if_ge (tgt := 37) dL_enters_30 (by decide) ⟨by omega, by omega⟩ (fun hb30 => ?_) (fun h => (h (by omega)).elim)
  refine x_aload_n dL_enters_37 rfl ?_
  refine x_iload_n dL_enters_38 rfl ?_
  refine x_bipush dL_enters_39 (by decide) ?_
  refine c_RL_22d dL_enters_41 rfl (tb_7 hP ht hk) bk (Nat.le_of_ble_eq_true rfl) (Nat.le_of_ble_eq_true rfl) ⟨Nat.le_refl _, Nat.le_refl _⟩ ?_
  refine x_iload dL_enters_44 rfl ?_
  refine x_ic_eq (tgt := 53) dL_enters_46 (by decide) ⟨by omega, by omega⟩ ⟨by omega, by omega⟩ (fun hb46 => ?_) (fun h => (h (by omega)).elim)
  refine x_aload_n dL_enters_53 rfl ?_
  refine x_iload_n dL_enters_54 rfl ?_
  refine x_bipush dL_enters_55 (by decide) ?_
  refine c_RL_22d dL_enters_57 rfl (tb_6 hP ht hk) bk (Nat.le_of_ble_eq_true rfl) (Nat.le_of_ble_eq_true rfl) ⟨Nat.le_refl _, Nat.le_refl _⟩ ?_
  rw [ta]
  refine x_iconst dL_enters_60 ?_
  refine x_ic_ne (tgt := 68) dL_enters_61 (by decide) ⟨by omega, by omega⟩ ⟨by omega, by omega⟩ (fun h => absurd h (by omega)) (fun hb61 => ?_)
  refine x_iconst dL_enters_64 ?_
  refine x_goto (tgt := 127) dL_enters_65 (by decide) ?_
  refine x_istore dL_enters_127 (by decide) ?_
  show JX _ _ _ _ _ _ _ _ _ _ _ [_, _, _, _, _, _, _, _, _, _, _, _] _ _
  refine x_aload_n dL_enters_129 rfl ?_
  refine x_iload_n dL_enters_130 rfl ?_
  refine x_bipush dL_enters_131 (by decide) ?_
  refine c_RL_15d dL_enters_133 rfl (tc_7 hP ht hc) bk (Nat.le_of_ble_eq_true rfl) (Nat.le_of_ble_eq_true rfl) ⟨Nat.le_refl _, Nat.le_refl _⟩ ?_
  refine x_aload_n dL_enters_136 rfl ?_
  refine x_iload_n dL_enters_137 rfl ?_
  refine x_iconst dL_enters_138 ?_
  refine c_RL_22d dL_enters_139 rfl (tb_0 hP ht hk) bk (Nat.le_of_ble_eq_true rfl) (Nat.le_of_ble_eq_true rfl) ⟨Nat.le_refl _, Nat.le_refl _⟩ ?_
  refine x_isub dL_enters_142 ?_
  refine x_istore dL_enters_143 (by decide) ?_
  show JX _ _ _ _ _ _ _ _ _ _ _ [_, _, _, _, _, _, _, _, _, _, _, _] _ _
  refine x_iload_n dL_enters_145 rfl ?_
  refine x_if_ge (tgt := 153) dL_enters_146 (by decide) ⟨by omega, by omega⟩ (fun hb146 => ?_) (fun h => (h (by omega)).elim)
  refine x_aload_n dL_enters_153 rfl ?_
  refine x_iload_n dL_enters_154 rfl ?_
  refine x_bipush dL_enters_155 (by decide) ?_
  refine x_iload_n dL_enters_157 rfl ?_
  refine x_iadd dL_enters_158 ?_
  refine c_RL_15d dL_enters_159 rfl (tc_p hP ht hc hgt) bk (Nat.le_of_ble_eq_true rfl) (Nat.le_of_ble_eq_true rfl) ⟨Nat.le_refl _, Nat.le_refl _⟩ ?_
  refine x_istore dL_enters_162 (by decide) ?_
  show JX _ _ _ _ _ _ _ _ _ _ _ [_, _, _, _, _, _, _, _, _, _, _, _] _ _
  refine x_iload_n dL_enters_164 rfl ?_
  refine x_if_ge (tgt := 172) dL_enters_165 (by decide) ⟨by omega, by omega⟩ (fun hb165 => ?_) (fun h => (h (by omega)).elim)
  refine x_aload_n dL_enters_172 rfl ?_
  refine x_iload_n dL_enters_173 rfl ?_
  refine x_bipush dL_enters_174 (by decide) ?_
  refine x_iload_n dL_enters_176 rfl ?_
  refine x_iadd dL_enters_177 ?_
  refine c_RL_15d dL_enters_178 rfl (tc_s hP ht hc hgt) bk (Nat.le_of_ble_eq_true rfl) (Nat.le_of_ble_eq_true rfl) ⟨Nat.le_refl _, Nat.le_refl _⟩ ?_
  refine x_istore dL_enters_181 (by decide) ?_
  show JX _ _ _ _ _ _ _ _ _ _ _ [_, _, _, _, _, _, _, _, _, _, _, _] _ _
  refine x_aload_n dL_enters_183 rfl ?_
  refine x_iload_n dL_enters_184 rfl ?_
  refine x_bipush dL_enters_185 (by decide) ?_
  refine c_RL_22d dL_enters_187 rfl (tb_8 hP ht hk) bk (Nat.le_of_ble_eq_true rfl) (Nat.le_of_ble_eq_true rfl) ⟨Nat.le_refl _, Nat.le_refl _⟩ ?_
  refine x_istore dL_enters_190 (by decide) ?_
  show JX _ _ _ _ _ _ _ _ _ _ _ [_, _, _, _, _, _, _, _, _, _, _, _] _ _
  refine x_aload_n dL_enters_192 rfl ?_
  refine x_iload_n dL_enters_193 rfl ?_
  refine x_iload_n dL_enters_194 rfl ?_
  refine c_RL_66p dL_enters_195 rfl (kX7_enter hP.1 (Or.inl rfl) hP.2.1 ht2 ⟨by omega, by omega⟩ ⟨by omega, by omega⟩) bk (Nat.le_of_ble_eq_true rfl) (Nat.le_of_ble_eq_true rfl) ⟨Nat.le_refl _, Nat.le_refl _⟩ (fun w2 D2 h2 => ?_)
  obtain ⟨rfl, hP2⟩ := hP.ref hz (by decide) h2
  refine x_istore dL_enters_198 (by decide) ?_
  show JX _ _ _ _ _ _ _ _ _ _ _ [_, _, _, _, _, _, _, _, _, _, _, _] _ _
  refine x_iload dL_enters_200 rfl ?_
  refine x_if_le (tgt := 240) dL_enters_202 (by decide) ⟨by omega, by omega⟩ (fun h => absurd h (by omega)) (fun hb202 => ?_)
  refine x_iload dL_enters_205 rfl ?_
  refine x_ldc (e := -100000003) dL_enters_207 ct_RL_59 (by decide) ?_
  refine x_ic_ne (tgt := 238) dL_enters_209 (by decide) ⟨by omega, by omega⟩ ⟨by omega, by omega⟩ (fun h => absurd h (by omega)) (fun hb209 => ?_)
  refine x_aload_n dL_enters_212 rfl ?_
  refine x_bipush dL_enters_213 (by decide) ?_
  refine c_RL_18d dL_enters_215 rfl (tn_7 hP2 ht2) bk (Nat.le_of_ble_eq_true rfl) (Nat.le_of_ble_eq_true rfl) ⟨Nat.le_refl _, Nat.le_refl _⟩ ?_
  refine x_iload dL_enters_218 rfl ?_
  refine x_ic_ne (tgt := 238) dL_enters_220 (by decide) ⟨by omega, by omega⟩ ⟨by omega, by omega⟩ (fun h => absurd h (by omega)) (fun hb220 => ?_)
  refine x_aload_n dL_enters_223 rfl ?_
  refine x_iload_n dL_enters_224 rfl ?_
  refine x_iconst dL_enters_225 ?_
  refine c_RL_15d dL_enters_226 rfl (tc_3 hP2 ht2 hc) bk (Nat.le_of_ble_eq_true rfl) (Nat.le_of_ble_eq_true rfl) ⟨Nat.le_refl _, Nat.le_refl _⟩ ?_
  refine x_iload dL_enters_229 rfl ?_
  refine x_ic_ne (tgt := 238) dL_enters_231 (by decide) ⟨by omega, by omega⟩ ⟨by omega, by omega⟩ (fun h => absurd h (by omega)) (fun hb231 => ?_)
  refine x_iconst dL_enters_234 ?_
  refine x_goto (tgt := 239) dL_enters_235 (by decide) ?_
  exact x_ireturn dL_enters_239 rfl (jbool (by first | exact Or.inl rfl | exact Or.inr rfl)).1 ⟨Nat.le_refl _, Nat.le_refl _⟩ ⟨rfl, _, rfl, rfl, _, _, _, _, hP2, hE, rfl, rfl⟩
theorem enters_6 {G : JG} {S : JS} {D : JD} {d : Nat} {X t n q : Int} {hs : Int → Int → Int} {r : Int → Int} {e : Int} {k c : Int} (hP : pSt S D X t n hs r q) (hE : pIn e r) (t0 : 0 ≤ t) (ht2 : t + 100 ≤ 60000) (hk : 0 ≤ k ∧ k < r 2) (hc : 0 ≤ c ∧ c < r 1) (h2 : ¬ r (29 + 11 * c) < 0) (h4 : ¬ r (71 + 8 * k) ≠ c + r (29 + 11 * c)) (h5 : ¬ gAgr r k) (h6 : sLf r c < r (65 + 8 * k)) : JM G yL_enters cL_enters 12 (some .boolean) (d + 7) (0, 0) S D [.inr (.inr (some X)), .inl k, .inl c] (jOK S X (t + 100) e (r 1) (r 2)) := by
  have ht : t ≤ 60000 := by omega
  have hB := hP.1
  have bk := hB.1
  have hI := hP.2.1.2.2.2.1
  have b1 := hI.1
  obtain ⟨c4, ln0, ln1, lf0, lf1, gt, s0, s1, s2, s3, sg, v0, v1, w0, w1, f0, f1, k0, k1, kk, a0, a1, g0, g1⟩ := hI.cB ht hc
  obtain ⟨bk0, q0, q1, q2, q3, q4, q5, q6, q7, q8, q9, q10, q11, bp, q13, q14, q15, q16, q17, q18⟩ := hI.bB ht hk
  have gA : (0 ≤ c ∧ c < r 1) ∧ (0 ≤ k ∧ k < r 2) := ⟨hc, hk⟩
  have hgt : r (29 + 11 * c) = 0 ∨ r (29 + 11 * c) = 1 := by omega
  have sgg := sg (r (29 + 11 * c)) hgt
  have pg : 0 ≤ r (30 + 11 * c + r (29 + 11 * c)) ∧ r (30 + 11 * c + r (29 + 11 * c)) ≤ 60000 := by
    rcases hgt with q | q
    · rw [q, show 30 + 11 * c + 0 = 30 + 11 * c by omega]; omega
    · rw [q, show 30 + 11 * c + 1 = 31 + 11 * c by omega]; omega
  have ta := tA_n h5
  have hz : zEnter k c r = (-100000003, none, 6) := by unfold zEnter; rw [if_pos ⟨hk, hc⟩, if_neg h2, if_neg h4, if_neg h5, if_pos h6]
  show JX _ _ _ _ _ _ _ _ _ _ _ [_, _, _, _, _, _, _, _, _, _, _, _] _ _
  refine x_aload_n dL_enters_0 rfl ?_
  refine x_iload_n dL_enters_1 rfl ?_
  refine x_bipush dL_enters_2 (by decide) ?_
  refine c_RL_15d dL_enters_4 rfl (tc_8 hP ht hc) bk (Nat.le_of_ble_eq_true rfl) (Nat.le_of_ble_eq_true rfl) ⟨Nat.le_refl _, Nat.le_refl _⟩ ?_
  refine x_istore_n dL_enters_7 (by decide) ?_
  show JX _ _ _ _ _ _ _ _ _ _ _ [_, _, _, _, _, _, _, _, _, _, _, _] _ _
  refine x_iload_n dL_enters_8 rfl ?_
  refine x_iload_n dL_enters_9 rfl ?_
  refine x_if_ge (tgt := 17) dL_enters_10 (by decide) ⟨by omega, by omega⟩ (fun hb10 => ?_) (fun h => (h (by omega)).elim)
  refine x_iload_n dL_enters_17 rfl ?_
  refine x_iadd dL_enters_18 ?_
  refine x_istore dL_enters_19 (by decide) ?_
  show JX _ _ _ _ _ _ _ _ _ _ _ [_, _, _, _, _, _, _, _, _, _, _, _] _ _
  refine x_aload_n dL_enters_21 rfl ?_
  refine x_iload_n dL_enters_22 rfl ?_
  refine x_iconst dL_enters_23 ?_
  refine c_RL_15d dL_enters_24 rfl (tc_3 hP ht hc) bk (Nat.le_of_ble_eq_true rfl) (Nat.le_of_ble_eq_true rfl) ⟨Nat.le_refl _, Nat.le_refl _⟩ ?_
  refine x_istore dL_enters_27 (by decide) ?_
  show JX _ _ _ _ _ _ _ _ _ _ _ [_, _, _, _, _, _, _, _, _, _, _, _] _ _
  refine x_iload_n dL_enters_29 rfl ?_
  refine x_if_ge (tgt := 37) dL_enters_30 (by decide) ⟨by omega, by omega⟩ (fun hb30 => ?_) (fun h => (h (by omega)).elim)
  refine x_aload_n dL_enters_37 rfl ?_
  refine x_iload_n dL_enters_38 rfl ?_
  refine x_bipush dL_enters_39 (by decide) ?_
  refine c_RL_22d dL_enters_41 rfl (tb_7 hP ht hk) bk (Nat.le_of_ble_eq_true rfl) (Nat.le_of_ble_eq_true rfl) ⟨Nat.le_refl _, Nat.le_refl _⟩ ?_
  refine x_iload dL_enters_44 rfl ?_
  refine x_ic_eq (tgt := 53) dL_enters_46 (by decide) ⟨by omega, by omega⟩ ⟨by omega, by omega⟩ (fun hb46 => ?_) (fun h => (h (by omega)).elim)
  refine x_aload_n dL_enters_53 rfl ?_
  refine x_iload_n dL_enters_54 rfl ?_
  refine x_bipush dL_enters_55 (by decide) ?_
  refine c_RL_22d dL_enters_57 rfl (tb_6 hP ht hk) bk (Nat.le_of_ble_eq_true rfl) (Nat.le_of_ble_eq_true rfl) ⟨Nat.le_refl _, Nat.le_refl _⟩ ?_
  rw [ta]
  refine x_iconst dL_enters_60 ?_
  refine x_ic_ne (tgt := 68) dL_enters_61 (by decide) ⟨by omega, by omega⟩ ⟨by omega, by omega⟩ (fun hb61 => ?_) (fun h => (h (by omega)).elim)
  refine x_aload_n dL_enters_68 rfl ?_
  refine x_iload_n dL_enters_69 rfl ?_
  refine x_iconst dL_enters_70 ?_
  refine c_RL_22d dL_enters_71 rfl (tb_0 hP ht hk) bk (Nat.le_of_ble_eq_true rfl) (Nat.le_of_ble_eq_true rfl) ⟨Nat.le_refl _, Nat.le_refl _⟩ ?_
  refine x_aload_n dL_enters_74 rfl ?_
  refine x_iload_n dL_enters_75 rfl ?_
  refine x_bipush dL_enters_76 (by decide) ?_
  refine c_RL_15d dL_enters_78 rfl (tc_7 hP ht hc) bk (Nat.le_of_ble_eq_true rfl) (Nat.le_of_ble_eq_true rfl) ⟨Nat.le_refl _, Nat.le_refl _⟩ ?_
  refine x_ic_le (tgt := 89) dL_enters_81 (by decide) ⟨by omega, by omega⟩ ⟨by omega, by omega⟩ (fun h => absurd h (by omega)) (fun hb81 => ?_)
  refine x_bipush dL_enters_84 (by decide) ?_
  refine x_goto (tgt := 127) dL_enters_86 (by decide) ?_
  refine x_istore dL_enters_127 (by decide) ?_
  show JX _ _ _ _ _ _ _ _ _ _ _ [_, _, _, _, _, _, _, _, _, _, _, _] _ _
  refine x_aload_n dL_enters_129 rfl ?_
  refine x_iload_n dL_enters_130 rfl ?_
  refine x_bipush dL_enters_131 (by decide) ?_
  refine c_RL_15d dL_enters_133 rfl (tc_7 hP ht hc) bk (Nat.le_of_ble_eq_true rfl) (Nat.le_of_ble_eq_true rfl) ⟨Nat.le_refl _, Nat.le_refl _⟩ ?_
  refine x_aload_n dL_enters_136 rfl ?_
  refine x_iload_n dL_enters_137 rfl ?_
  refine x_iconst dL_enters_138 ?_
  refine c_RL_22d dL_enters_139 rfl (tb_0 hP ht hk) bk (Nat.le_of_ble_eq_true rfl) (Nat.le_of_ble_eq_true rfl) ⟨Nat.le_refl _, Nat.le_refl _⟩ ?_
  refine x_isub dL_enters_142 ?_
  refine x_istore dL_enters_143 (by decide) ?_
  show JX _ _ _ _ _ _ _ _ _ _ _ [_, _, _, _, _, _, _, _, _, _, _, _] _ _
  refine x_iload_n dL_enters_145 rfl ?_
  refine x_if_ge (tgt := 153) dL_enters_146 (by decide) ⟨by omega, by omega⟩ (fun hb146 => ?_) (fun h => (h (by omega)).elim)
  refine x_aload_n dL_enters_153 rfl ?_
  refine x_iload_n dL_enters_154 rfl ?_
  refine x_bipush dL_enters_155 (by decide) ?_
  refine x_iload_n dL_enters_157 rfl ?_
  refine x_iadd dL_enters_158 ?_
  refine c_RL_15d dL_enters_159 rfl (tc_p hP ht hc hgt) bk (Nat.le_of_ble_eq_true rfl) (Nat.le_of_ble_eq_true rfl) ⟨Nat.le_refl _, Nat.le_refl _⟩ ?_
  refine x_istore dL_enters_162 (by decide) ?_
  show JX _ _ _ _ _ _ _ _ _ _ _ [_, _, _, _, _, _, _, _, _, _, _, _] _ _
  refine x_iload_n dL_enters_164 rfl ?_
  refine x_if_ge (tgt := 172) dL_enters_165 (by decide) ⟨by omega, by omega⟩ (fun hb165 => ?_) (fun h => (h (by omega)).elim)
  refine x_aload_n dL_enters_172 rfl ?_
  refine x_iload_n dL_enters_173 rfl ?_
  refine x_bipush dL_enters_174 (by decide) ?_
  refine x_iload_n dL_enters_176 rfl ?_
  refine x_iadd dL_enters_177 ?_
  refine c_RL_15d dL_enters_178 rfl (tc_s hP ht hc hgt) bk (Nat.le_of_ble_eq_true rfl) (Nat.le_of_ble_eq_true rfl) ⟨Nat.le_refl _, Nat.le_refl _⟩ ?_
  refine x_istore dL_enters_181 (by decide) ?_
  show JX _ _ _ _ _ _ _ _ _ _ _ [_, _, _, _, _, _, _, _, _, _, _, _] _ _
  refine x_aload_n dL_enters_183 rfl ?_
  refine x_iload_n dL_enters_184 rfl ?_
  refine x_bipush dL_enters_185 (by decide) ?_
  refine c_RL_22d dL_enters_187 rfl (tb_8 hP ht hk) bk (Nat.le_of_ble_eq_true rfl) (Nat.le_of_ble_eq_true rfl) ⟨Nat.le_refl _, Nat.le_refl _⟩ ?_
  refine x_istore dL_enters_190 (by decide) ?_
  show JX _ _ _ _ _ _ _ _ _ _ _ [_, _, _, _, _, _, _, _, _, _, _, _] _ _
  refine x_aload_n dL_enters_192 rfl ?_
  refine x_iload_n dL_enters_193 rfl ?_
  refine x_iload_n dL_enters_194 rfl ?_
  refine c_RL_66p dL_enters_195 rfl (kX7_enter hP.1 (Or.inl rfl) hP.2.1 ht2 ⟨by omega, by omega⟩ ⟨by omega, by omega⟩) bk (Nat.le_of_ble_eq_true rfl) (Nat.le_of_ble_eq_true rfl) ⟨Nat.le_refl _, Nat.le_refl _⟩ (fun w2 D2 h2 => ?_)
  obtain ⟨rfl, hP2⟩ := hP.ref hz (by decide) h2
  refine x_istore dL_enters_198 (by decide) ?_
  show JX _ _ _ _ _ _ _ _ _ _ _ [_, _, _, _, _, _, _, _, _, _, _, _] _ _
  refine x_iload dL_enters_200 rfl ?_
  refine x_if_le (tgt := 240) dL_enters_202 (by decide) ⟨by omega, by omega⟩ (fun h => absurd h (by omega)) (fun hb202 => ?_)
  refine x_iload dL_enters_205 rfl ?_
  refine x_ldc (e := -100000003) dL_enters_207 ct_RL_59 (by decide) ?_
  refine x_ic_ne (tgt := 238) dL_enters_209 (by decide) ⟨by omega, by omega⟩ ⟨by omega, by omega⟩ (fun h => absurd h (by omega)) (fun hb209 => ?_)
  refine x_aload_n dL_enters_212 rfl ?_
  refine x_bipush dL_enters_213 (by decide) ?_
  refine c_RL_18d dL_enters_215 rfl (tn_7 hP2 ht2) bk (Nat.le_of_ble_eq_true rfl) (Nat.le_of_ble_eq_true rfl) ⟨Nat.le_refl _, Nat.le_refl _⟩ ?_
  refine x_iload dL_enters_218 rfl ?_
  refine x_ic_ne (tgt := 238) dL_enters_220 (by decide) ⟨by omega, by omega⟩ ⟨by omega, by omega⟩ (fun h => absurd h (by omega)) (fun hb220 => ?_)
  refine x_aload_n dL_enters_223 rfl ?_
  refine x_iload_n dL_enters_224 rfl ?_
  refine x_iconst dL_enters_225 ?_
  refine c_RL_15d dL_enters_226 rfl (tc_3 hP2 ht2 hc) bk (Nat.le_of_ble_eq_true rfl) (Nat.le_of_ble_eq_true rfl) ⟨Nat.le_refl _, Nat.le_refl _⟩ ?_
  refine x_iload dL_enters_229 rfl ?_
  refine x_ic_ne (tgt := 238) dL_enters_231 (by decide) ⟨by omega, by omega⟩ ⟨by omega, by omega⟩ (fun h => absurd h (by omega)) (fun hb231 => ?_)
  refine x_iconst dL_enters_234 ?_
  refine x_goto (tgt := 239) dL_enters_235 (by decide) ?_
  exact x_ireturn dL_enters_239 rfl (jbool (by first | exact Or.inl rfl | exact Or.inr rfl)).1 ⟨Nat.le_refl _, Nat.le_refl _⟩ ⟨rfl, _, rfl, rfl, _, _, _, _, hP2, hE, rfl, rfl⟩
theorem enters_7 {G : JG} {S : JS} {D : JD} {d : Nat} {X t n q : Int} {hs : Int → Int → Int} {r : Int → Int} {e : Int} {k c : Int} (hP : pSt S D X t n hs r q) (hE : pIn e r) (t0 : 0 ≤ t) (ht2 : t + 100 ≤ 60000) (hk : 0 ≤ k ∧ k < r 2) (hc : 0 ≤ c ∧ c < r 1) (h2 : ¬ r (29 + 11 * c) < 0) (h4 : ¬ r (71 + 8 * k) ≠ c + r (29 + 11 * c)) (h5 : ¬ gAgr r k) (h6 : ¬ sLf r c < r (65 + 8 * k)) (h7 : gDeep r k c (r (29 + 11 * c))) : JM G yL_enters cL_enters 12 (some .boolean) (d + 7) (0, 0) S D [.inr (.inr (some X)), .inl k, .inl c] (jOK S X (t + 100) e (r 1) (r 2)) := by
  have ht : t ≤ 60000 := by omega
  have hB := hP.1
  have bk := hB.1
  have hI := hP.2.1.2.2.2.1
  have b1 := hI.1
  obtain ⟨c4, ln0, ln1, lf0, lf1, gt, s0, s1, s2, s3, sg, v0, v1, w0, w1, f0, f1, k0, k1, kk, a0, a1, g0, g1⟩ := hI.cB ht hc
  obtain ⟨bk0, q0, q1, q2, q3, q4, q5, q6, q7, q8, q9, q10, q11, bp, q13, q14, q15, q16, q17, q18⟩ := hI.bB ht hk
  have gA : (0 ≤ c ∧ c < r 1) ∧ (0 ≤ k ∧ k < r 2) := ⟨hc, hk⟩
  have hgt : r (29 + 11 * c) = 0 ∨ r (29 + 11 * c) = 1 := by omega
  have sgg := sg (r (29 + 11 * c)) hgt
  have pg : 0 ≤ r (30 + 11 * c + r (29 + 11 * c)) ∧ r (30 + 11 * c + r (29 + 11 * c)) ≤ 60000 := by
    rcases hgt with q | q
    · rw [q, show 30 + 11 * c + 0 = 30 + 11 * c by omega]; omega
    · rw [q, show 30 + 11 * c + 1 = 31 + 11 * c by omega]; omega
  have ta := tA_n h5
  have h7b : sLv r (100 + c) - sHg r c (r (29 + 11 * c)) - r 3 < sDr r k := h7
  have hz : zEnter k c r = (-100000003, none, 7) := by unfold zEnter; rw [if_pos ⟨hk, hc⟩, if_neg h2, if_neg h4, if_neg h5, if_neg h6, if_pos h7]
  show JX _ _ _ _ _ _ _ _ _ _ _ [_, _, _, _, _, _, _, _, _, _, _, _] _ _
  refine x_aload_n dL_enters_0 rfl ?_
  refine x_iload_n dL_enters_1 rfl ?_
  refine x_bipush dL_enters_2 (by decide) ?_
  refine c_RL_15d dL_enters_4 rfl (tc_8 hP ht hc) bk (Nat.le_of_ble_eq_true rfl) (Nat.le_of_ble_eq_true rfl) ⟨Nat.le_refl _, Nat.le_refl _⟩ ?_
  refine x_istore_n dL_enters_7 (by decide) ?_
  show JX _ _ _ _ _ _ _ _ _ _ _ [_, _, _, _, _, _, _, _, _, _, _, _] _ _
  refine x_iload_n dL_enters_8 rfl ?_
  refine x_iload_n dL_enters_9 rfl ?_
  refine x_if_ge (tgt := 17) dL_enters_10 (by decide) ⟨by omega, by omega⟩ (fun hb10 => ?_) (fun h => (h (by omega)).elim)
  refine x_iload_n dL_enters_17 rfl ?_
  refine x_iadd dL_enters_18 ?_
  refine x_istore dL_enters_19 (by decide) ?_
  show JX _ _ _ _ _ _ _ _ _ _ _ [_, _, _, _, _, _, _, _, _, _, _, _] _ _
  refine x_aload_n dL_enters_21 rfl ?_
  refine x_iload_n dL_enters_22 rfl ?_
  refine x_iconst dL_enters_23 ?_
  refine c_RL_15d dL_enters_24 rfl (tc_3 hP ht hc) bk (Nat.le_of_ble_eq_true rfl) (Nat.le_of_ble_eq_true rfl) ⟨Nat.le_refl _, Nat.le_refl _⟩ ?_
  refine x_istore dL_enters_27 (by decide) ?_
  show JX _ _ _ _ _ _ _ _ _ _ _ [_, _, _, _, _, _, _, _, _, _, _, _] _ _
  refine x_iload_n dL_enters_29 rfl ?_
  refine x_if_ge (tgt := 37) dL_enters_30 (by decide) ⟨by omega, by omega⟩ (fun hb30 => ?_) (fun h => (h (by omega)).elim)
  refine x_aload_n dL_enters_37 rfl ?_
  refine x_iload_n dL_enters_38 rfl ?_
  refine x_bipush dL_enters_39 (by decide) ?_
  refine c_RL_22d dL_enters_41 rfl (tb_7 hP ht hk) bk (Nat.le_of_ble_eq_true rfl) (Nat.le_of_ble_eq_true rfl) ⟨Nat.le_refl _, Nat.le_refl _⟩ ?_
  refine x_iload dL_enters_44 rfl ?_
  refine x_ic_eq (tgt := 53) dL_enters_46 (by decide) ⟨by omega, by omega⟩ ⟨by omega, by omega⟩ (fun hb46 => ?_) (fun h => (h (by omega)).elim)
  refine x_aload_n dL_enters_53 rfl ?_
  refine x_iload_n dL_enters_54 rfl ?_
  refine x_bipush dL_enters_55 (by decide) ?_
  refine c_RL_22d dL_enters_57 rfl (tb_6 hP ht hk) bk (Nat.le_of_ble_eq_true rfl) (Nat.le_of_ble_eq_true rfl) ⟨Nat.le_refl _, Nat.le_refl _⟩ ?_
  rw [ta]
  refine x_iconst dL_enters_60 ?_
  refine x_ic_ne (tgt := 68) dL_enters_61 (by decide) ⟨by omega, by omega⟩ ⟨by omega, by omega⟩ (fun hb61 => ?_) (fun h => (h (by omega)).elim)
  refine x_aload_n dL_enters_68 rfl ?_
  refine x_iload_n dL_enters_69 rfl ?_
  refine x_iconst dL_enters_70 ?_
  refine c_RL_22d dL_enters_71 rfl (tb_0 hP ht hk) bk (Nat.le_of_ble_eq_true rfl) (Nat.le_of_ble_eq_true rfl) ⟨Nat.le_refl _, Nat.le_refl _⟩ ?_
  refine x_aload_n dL_enters_74 rfl ?_
  refine x_iload_n dL_enters_75 rfl ?_
  refine x_bipush dL_enters_76 (by decide) ?_
  refine c_RL_15d dL_enters_78 rfl (tc_7 hP ht hc) bk (Nat.le_of_ble_eq_true rfl) (Nat.le_of_ble_eq_true rfl) ⟨Nat.le_refl _, Nat.le_refl _⟩ ?_
  refine x_ic_le (tgt := 89) dL_enters_81 (by decide) ⟨by omega, by omega⟩ ⟨by omega, by omega⟩ (fun hb81 => ?_) (fun h => (h (by omega)).elim)
  refine x_aload_n dL_enters_89 rfl ?_
  refine x_iload_n dL_enters_90 rfl ?_
  refine x_iconst dL_enters_91 ?_
  refine c_RL_15d dL_enters_92 rfl (tc_0 hP ht hc) bk (Nat.le_of_ble_eq_true rfl) (Nat.le_of_ble_eq_true rfl) ⟨Nat.le_refl _, Nat.le_refl _⟩ ?_
  refine x_aload_n dL_enters_95 rfl ?_
  refine x_iload_n dL_enters_96 rfl ?_
  refine x_bipush dL_enters_97 (by decide) ?_
  refine x_iload_n dL_enters_99 rfl ?_
  refine x_iadd dL_enters_100 ?_
  refine c_RL_15d dL_enters_101 rfl (tc_s hP ht hc hgt) bk (Nat.le_of_ble_eq_true rfl) (Nat.le_of_ble_eq_true rfl) ⟨Nat.le_refl _, Nat.le_refl _⟩ ?_
  refine x_isub dL_enters_104 ?_
  refine x_aload_n dL_enters_105 rfl ?_
  refine x_iload_n dL_enters_106 rfl ?_
  refine x_iconst dL_enters_107 ?_
  refine c_RL_22d dL_enters_108 rfl (tb_2 hP ht hk) bk (Nat.le_of_ble_eq_true rfl) (Nat.le_of_ble_eq_true rfl) ⟨Nat.le_refl _, Nat.le_refl _⟩ ?_
  refine x_aload_n dL_enters_111 rfl ?_
  refine x_bipush dL_enters_112 (by decide) ?_
  refine c_RL_18d dL_enters_114 rfl (tn_6 hP ht) bk (Nat.le_of_ble_eq_true rfl) (Nat.le_of_ble_eq_true rfl) ⟨Nat.le_refl _, Nat.le_refl _⟩ ?_
  refine x_iadd dL_enters_117 ?_
  refine x_ic_ge (tgt := 126) dL_enters_118 (by decide) ⟨by omega, by omega⟩ ⟨by omega, by omega⟩ (fun h => absurd h (by omega)) (fun hb118 => ?_)
  refine x_bipush dL_enters_121 (by decide) ?_
  refine x_goto (tgt := 127) dL_enters_123 (by decide) ?_
  refine x_istore dL_enters_127 (by decide) ?_
  show JX _ _ _ _ _ _ _ _ _ _ _ [_, _, _, _, _, _, _, _, _, _, _, _] _ _
  refine x_aload_n dL_enters_129 rfl ?_
  refine x_iload_n dL_enters_130 rfl ?_
  refine x_bipush dL_enters_131 (by decide) ?_
  refine c_RL_15d dL_enters_133 rfl (tc_7 hP ht hc) bk (Nat.le_of_ble_eq_true rfl) (Nat.le_of_ble_eq_true rfl) ⟨Nat.le_refl _, Nat.le_refl _⟩ ?_
  refine x_aload_n dL_enters_136 rfl ?_
  refine x_iload_n dL_enters_137 rfl ?_
  refine x_iconst dL_enters_138 ?_
  refine c_RL_22d dL_enters_139 rfl (tb_0 hP ht hk) bk (Nat.le_of_ble_eq_true rfl) (Nat.le_of_ble_eq_true rfl) ⟨Nat.le_refl _, Nat.le_refl _⟩ ?_
  refine x_isub dL_enters_142 ?_
  refine x_istore dL_enters_143 (by decide) ?_
  show JX _ _ _ _ _ _ _ _ _ _ _ [_, _, _, _, _, _, _, _, _, _, _, _] _ _
  refine x_iload_n dL_enters_145 rfl ?_
  refine x_if_ge (tgt := 153) dL_enters_146 (by decide) ⟨by omega, by omega⟩ (fun hb146 => ?_) (fun h => (h (by omega)).elim)
  refine x_aload_n dL_enters_153 rfl ?_
  refine x_iload_n dL_enters_154 rfl ?_
  refine x_bipush dL_enters_155 (by decide) ?_
  refine x_iload_n dL_enters_157 rfl ?_
  refine x_iadd dL_enters_158 ?_
  refine c_RL_15d dL_enters_159 rfl (tc_p hP ht hc hgt) bk (Nat.le_of_ble_eq_true rfl) (Nat.le_of_ble_eq_true rfl) ⟨Nat.le_refl _, Nat.le_refl _⟩ ?_
  refine x_istore dL_enters_162 (by decide) ?_
  show JX _ _ _ _ _ _ _ _ _ _ _ [_, _, _, _, _, _, _, _, _, _, _, _] _ _
  refine x_iload_n dL_enters_164 rfl ?_
  refine x_if_ge (tgt := 172) dL_enters_165 (by decide) ⟨by omega, by omega⟩ (fun hb165 => ?_) (fun h => (h (by omega)).elim)
  refine x_aload_n dL_enters_172 rfl ?_
  refine x_iload_n dL_enters_173 rfl ?_
  refine x_bipush dL_enters_174 (by decide) ?_
  refine x_iload_n dL_enters_176 rfl ?_
  refine x_iadd dL_enters_177 ?_
  refine c_RL_15d dL_enters_178 rfl (tc_s hP ht hc hgt) bk (Nat.le_of_ble_eq_true rfl) (Nat.le_of_ble_eq_true rfl) ⟨Nat.le_refl _, Nat.le_refl _⟩ ?_
  refine x_istore dL_enters_181 (by decide) ?_
  show JX _ _ _ _ _ _ _ _ _ _ _ [_, _, _, _, _, _, _, _, _, _, _, _] _ _
  refine x_aload_n dL_enters_183 rfl ?_
  refine x_iload_n dL_enters_184 rfl ?_
  refine x_bipush dL_enters_185 (by decide) ?_
  refine c_RL_22d dL_enters_187 rfl (tb_8 hP ht hk) bk (Nat.le_of_ble_eq_true rfl) (Nat.le_of_ble_eq_true rfl) ⟨Nat.le_refl _, Nat.le_refl _⟩ ?_
  refine x_istore dL_enters_190 (by decide) ?_
  show JX _ _ _ _ _ _ _ _ _ _ _ [_, _, _, _, _, _, _, _, _, _, _, _] _ _
  refine x_aload_n dL_enters_192 rfl ?_
  refine x_iload_n dL_enters_193 rfl ?_
  refine x_iload_n dL_enters_194 rfl ?_
  refine c_RL_66p dL_enters_195 rfl (kX7_enter hP.1 (Or.inl rfl) hP.2.1 ht2 ⟨by omega, by omega⟩ ⟨by omega, by omega⟩) bk (Nat.le_of_ble_eq_true rfl) (Nat.le_of_ble_eq_true rfl) ⟨Nat.le_refl _, Nat.le_refl _⟩ (fun w2 D2 h2 => ?_)
  obtain ⟨rfl, hP2⟩ := hP.ref hz (by decide) h2
  refine x_istore dL_enters_198 (by decide) ?_
  show JX _ _ _ _ _ _ _ _ _ _ _ [_, _, _, _, _, _, _, _, _, _, _, _] _ _
  refine x_iload dL_enters_200 rfl ?_
  refine x_if_le (tgt := 240) dL_enters_202 (by decide) ⟨by omega, by omega⟩ (fun h => absurd h (by omega)) (fun hb202 => ?_)
  refine x_iload dL_enters_205 rfl ?_
  refine x_ldc (e := -100000003) dL_enters_207 ct_RL_59 (by decide) ?_
  refine x_ic_ne (tgt := 238) dL_enters_209 (by decide) ⟨by omega, by omega⟩ ⟨by omega, by omega⟩ (fun h => absurd h (by omega)) (fun hb209 => ?_)
  refine x_aload_n dL_enters_212 rfl ?_
  refine x_bipush dL_enters_213 (by decide) ?_
  refine c_RL_18d dL_enters_215 rfl (tn_7 hP2 ht2) bk (Nat.le_of_ble_eq_true rfl) (Nat.le_of_ble_eq_true rfl) ⟨Nat.le_refl _, Nat.le_refl _⟩ ?_
  refine x_iload dL_enters_218 rfl ?_
  refine x_ic_ne (tgt := 238) dL_enters_220 (by decide) ⟨by omega, by omega⟩ ⟨by omega, by omega⟩ (fun h => absurd h (by omega)) (fun hb220 => ?_)
  refine x_aload_n dL_enters_223 rfl ?_
  refine x_iload_n dL_enters_224 rfl ?_
  refine x_iconst dL_enters_225 ?_
  refine c_RL_15d dL_enters_226 rfl (tc_3 hP2 ht2 hc) bk (Nat.le_of_ble_eq_true rfl) (Nat.le_of_ble_eq_true rfl) ⟨Nat.le_refl _, Nat.le_refl _⟩ ?_
  refine x_iload dL_enters_229 rfl ?_
  refine x_ic_ne (tgt := 238) dL_enters_231 (by decide) ⟨by omega, by omega⟩ ⟨by omega, by omega⟩ (fun h => absurd h (by omega)) (fun hb231 => ?_)
  refine x_iconst dL_enters_234 ?_
  refine x_goto (tgt := 239) dL_enters_235 (by decide) ?_
  exact x_ireturn dL_enters_239 rfl (jbool (by first | exact Or.inl rfl | exact Or.inr rfl)).1 ⟨Nat.le_refl _, Nat.le_refl _⟩ ⟨rfl, _, rfl, rfl, _, _, _, _, hP2, hE, rfl, rfl⟩
theorem enters_00 {G : JG} {S : JS} {D : JD} {d : Nat} {X t n q : Int} {hs : Int → Int → Int} {r : Int → Int} {e : Int} {k c : Int} (hP : pSt S D X t n hs r q) (hE : pIn e r) (t0 : 0 ≤ t) (ht2 : t + 100 ≤ 60000) (hk : 0 ≤ k ∧ k < r 2) (hc : 0 ≤ c ∧ c < r 1) (h2 : ¬ r (29 + 11 * c) < 0) (h4 : ¬ r (71 + 8 * k) ≠ c + r (29 + 11 * c)) (h5 : ¬ gAgr r k) (h6 : ¬ sLf r c < r (65 + 8 * k)) (h7 : ¬ gDeep r k c (r (29 + 11 * c))) (hg0 : r (29 + 11 * c) = 0) : JM G yL_enters cL_enters 12 (some .boolean) (d + 7) (0, 0) S D [.inr (.inr (some X)), .inl k, .inl c] (jOK S X (t + 100) e (r 1) (r 2)) := by
  have ht : t ≤ 60000 := by omega
  have hB := hP.1
  have bk := hB.1
  have hI := hP.2.1.2.2.2.1
  have b1 := hI.1
  obtain ⟨c4, ln0, ln1, lf0, lf1, gt, s0, s1, s2, s3, sg, v0, v1, w0, w1, f0, f1, k0, k1, kk, a0, a1, g0, g1⟩ := hI.cB ht hc
  obtain ⟨bk0, q0, q1, q2, q3, q4, q5, q6, q7, q8, q9, q10, q11, bp, q13, q14, q15, q16, q17, q18⟩ := hI.bB ht hk
  have gA : (0 ≤ c ∧ c < r 1) ∧ (0 ≤ k ∧ k < r 2) := ⟨hc, hk⟩
  have hgt : r (29 + 11 * c) = 0 ∨ r (29 + 11 * c) = 1 := by omega
  have sgg := sg (r (29 + 11 * c)) hgt
  have pg : 0 ≤ r (30 + 11 * c + r (29 + 11 * c)) ∧ r (30 + 11 * c + r (29 + 11 * c)) ≤ 60000 := by
    rcases hgt with q | q
    · rw [q, show 30 + 11 * c + 0 = 30 + 11 * c by omega]; omega
    · rw [q, show 30 + 11 * c + 1 = 31 + 11 * c by omega]; omega
  have ta := tA_n h5
  have h7b : ¬ sLv r (100 + c) - sHg r c (r (29 + 11 * c)) - r 3 < sDr r k := h7
  obtain ⟨hI3, of, k1a, k2a, m71, m72, m30, mHg, m161, mg0, mg1, mLf⟩ := enter_nums hI hk hc hgt (by omega) (by omega)
  have hE3 := (hE.off hI of).all hI3
  have tm8 : (r (30 + 11 * c + r (29 + 11 * c)) + 1).tmod 8 = (r (30 + 11 * c + r (29 + 11 * c)) + 1) % 8 := Int.tmod_eq_emod_of_nonneg (by omega)
  have hc2 : 0 ≤ c ∧ c < sAll (rEnter k c (r (29 + 11 * c)) r) 1 := ⟨hc.1, by omega⟩
  have hk2 : 0 ≤ k ∧ k < sAll (rEnter k c (r (29 + 11 * c)) r) 2 := ⟨hk.1, by omega⟩
  have mg := mg0 hg0
  have hz : zEnter k c r = (sLf (rEnter k c (r (29 + 11 * c)) r) c, some (rEnter k c (r (29 + 11 * c)) r), 0) := by unfold zEnter; rw [if_pos ⟨hk, hc⟩, if_neg h2, if_neg h4, if_neg h5, if_neg h6, if_neg h7]
  show JX _ _ _ _ _ _ _ _ _ _ _ [_, _, _, _, _, _, _, _, _, _, _, _] _ _
  refine x_aload_n dL_enters_0 rfl ?_
  refine x_iload_n dL_enters_1 rfl ?_
  refine x_bipush dL_enters_2 (by decide) ?_
  refine c_RL_15d dL_enters_4 rfl (tc_8 hP ht hc) bk (Nat.le_of_ble_eq_true rfl) (Nat.le_of_ble_eq_true rfl) ⟨Nat.le_refl _, Nat.le_refl _⟩ ?_
  refine x_istore_n dL_enters_7 (by decide) ?_
  show JX _ _ _ _ _ _ _ _ _ _ _ [_, _, _, _, _, _, _, _, _, _, _, _] _ _
  refine x_iload_n dL_enters_8 rfl ?_
  refine x_iload_n dL_enters_9 rfl ?_
  refine x_if_ge (tgt := 17) dL_enters_10 (by decide) ⟨by omega, by omega⟩ (fun hb10 => ?_) (fun h => (h (by omega)).elim)
  refine x_iload_n dL_enters_17 rfl ?_
  refine x_iadd dL_enters_18 ?_
  refine x_istore dL_enters_19 (by decide) ?_
  show JX _ _ _ _ _ _ _ _ _ _ _ [_, _, _, _, _, _, _, _, _, _, _, _] _ _
  refine x_aload_n dL_enters_21 rfl ?_
  refine x_iload_n dL_enters_22 rfl ?_
  refine x_iconst dL_enters_23 ?_
  refine c_RL_15d dL_enters_24 rfl (tc_3 hP ht hc) bk (Nat.le_of_ble_eq_true rfl) (Nat.le_of_ble_eq_true rfl) ⟨Nat.le_refl _, Nat.le_refl _⟩ ?_
  refine x_istore dL_enters_27 (by decide) ?_
  show JX _ _ _ _ _ _ _ _ _ _ _ [_, _, _, _, _, _, _, _, _, _, _, _] _ _
  refine x_iload_n dL_enters_29 rfl ?_
  refine x_if_ge (tgt := 37) dL_enters_30 (by decide) ⟨by omega, by omega⟩ (fun hb30 => ?_) (fun h => (h (by omega)).elim)
  refine x_aload_n dL_enters_37 rfl ?_
  refine x_iload_n dL_enters_38 rfl ?_
  refine x_bipush dL_enters_39 (by decide) ?_
  refine c_RL_22d dL_enters_41 rfl (tb_7 hP ht hk) bk (Nat.le_of_ble_eq_true rfl) (Nat.le_of_ble_eq_true rfl) ⟨Nat.le_refl _, Nat.le_refl _⟩ ?_
  refine x_iload dL_enters_44 rfl ?_
  refine x_ic_eq (tgt := 53) dL_enters_46 (by decide) ⟨by omega, by omega⟩ ⟨by omega, by omega⟩ (fun hb46 => ?_) (fun h => (h (by omega)).elim)
  refine x_aload_n dL_enters_53 rfl ?_
  refine x_iload_n dL_enters_54 rfl ?_
  refine x_bipush dL_enters_55 (by decide) ?_
  refine c_RL_22d dL_enters_57 rfl (tb_6 hP ht hk) bk (Nat.le_of_ble_eq_true rfl) (Nat.le_of_ble_eq_true rfl) ⟨Nat.le_refl _, Nat.le_refl _⟩ ?_
  rw [ta]
  refine x_iconst dL_enters_60 ?_
  refine x_ic_ne (tgt := 68) dL_enters_61 (by decide) ⟨by omega, by omega⟩ ⟨by omega, by omega⟩ (fun hb61 => ?_) (fun h => (h (by omega)).elim)
  refine x_aload_n dL_enters_68 rfl ?_
  refine x_iload_n dL_enters_69 rfl ?_
  refine x_iconst dL_enters_70 ?_
  refine c_RL_22d dL_enters_71 rfl (tb_0 hP ht hk) bk (Nat.le_of_ble_eq_true rfl) (Nat.le_of_ble_eq_true rfl) ⟨Nat.le_refl _, Nat.le_refl _⟩ ?_
  refine x_aload_n dL_enters_74 rfl ?_
  refine x_iload_n dL_enters_75 rfl ?_
  refine x_bipush dL_enters_76 (by decide) ?_
  refine c_RL_15d dL_enters_78 rfl (tc_7 hP ht hc) bk (Nat.le_of_ble_eq_true rfl) (Nat.le_of_ble_eq_true rfl) ⟨Nat.le_refl _, Nat.le_refl _⟩ ?_
  refine x_ic_le (tgt := 89) dL_enters_81 (by decide) ⟨by omega, by omega⟩ ⟨by omega, by omega⟩ (fun hb81 => ?_) (fun h => (h (by omega)).elim)
  refine x_aload_n dL_enters_89 rfl ?_
  refine x_iload_n dL_enters_90 rfl ?_
  refine x_iconst dL_enters_91 ?_
  refine c_RL_15d dL_enters_92 rfl (tc_0 hP ht hc) bk (Nat.le_of_ble_eq_true rfl) (Nat.le_of_ble_eq_true rfl) ⟨Nat.le_refl _, Nat.le_refl _⟩ ?_
  refine x_aload_n dL_enters_95 rfl ?_
  refine x_iload_n dL_enters_96 rfl ?_
  refine x_bipush dL_enters_97 (by decide) ?_
  refine x_iload_n dL_enters_99 rfl ?_
  refine x_iadd dL_enters_100 ?_
  refine c_RL_15d dL_enters_101 rfl (tc_s hP ht hc hgt) bk (Nat.le_of_ble_eq_true rfl) (Nat.le_of_ble_eq_true rfl) ⟨Nat.le_refl _, Nat.le_refl _⟩ ?_
  refine x_isub dL_enters_104 ?_
  refine x_aload_n dL_enters_105 rfl ?_
  refine x_iload_n dL_enters_106 rfl ?_
  refine x_iconst dL_enters_107 ?_
  refine c_RL_22d dL_enters_108 rfl (tb_2 hP ht hk) bk (Nat.le_of_ble_eq_true rfl) (Nat.le_of_ble_eq_true rfl) ⟨Nat.le_refl _, Nat.le_refl _⟩ ?_
  refine x_aload_n dL_enters_111 rfl ?_
  refine x_bipush dL_enters_112 (by decide) ?_
  refine c_RL_18d dL_enters_114 rfl (tn_6 hP ht) bk (Nat.le_of_ble_eq_true rfl) (Nat.le_of_ble_eq_true rfl) ⟨Nat.le_refl _, Nat.le_refl _⟩ ?_
  refine x_iadd dL_enters_117 ?_
  refine x_ic_ge (tgt := 126) dL_enters_118 (by decide) ⟨by omega, by omega⟩ ⟨by omega, by omega⟩ (fun hb118 => ?_) (fun h => (h (by omega)).elim)
  refine x_iconst dL_enters_126 ?_
  refine x_istore dL_enters_127 (by decide) ?_
  show JX _ _ _ _ _ _ _ _ _ _ _ [_, _, _, _, _, _, _, _, _, _, _, _] _ _
  refine x_aload_n dL_enters_129 rfl ?_
  refine x_iload_n dL_enters_130 rfl ?_
  refine x_bipush dL_enters_131 (by decide) ?_
  refine c_RL_15d dL_enters_133 rfl (tc_7 hP ht hc) bk (Nat.le_of_ble_eq_true rfl) (Nat.le_of_ble_eq_true rfl) ⟨Nat.le_refl _, Nat.le_refl _⟩ ?_
  refine x_aload_n dL_enters_136 rfl ?_
  refine x_iload_n dL_enters_137 rfl ?_
  refine x_iconst dL_enters_138 ?_
  refine c_RL_22d dL_enters_139 rfl (tb_0 hP ht hk) bk (Nat.le_of_ble_eq_true rfl) (Nat.le_of_ble_eq_true rfl) ⟨Nat.le_refl _, Nat.le_refl _⟩ ?_
  refine x_isub dL_enters_142 ?_
  refine x_istore dL_enters_143 (by decide) ?_
  show JX _ _ _ _ _ _ _ _ _ _ _ [_, _, _, _, _, _, _, _, _, _, _, _] _ _
  refine x_iload_n dL_enters_145 rfl ?_
  refine x_if_ge (tgt := 153) dL_enters_146 (by decide) ⟨by omega, by omega⟩ (fun hb146 => ?_) (fun h => (h (by omega)).elim)
  refine x_aload_n dL_enters_153 rfl ?_
  refine x_iload_n dL_enters_154 rfl ?_
  refine x_bipush dL_enters_155 (by decide) ?_
  refine x_iload_n dL_enters_157 rfl ?_
  refine x_iadd dL_enters_158 ?_
  refine c_RL_15d dL_enters_159 rfl (tc_p hP ht hc hgt) bk (Nat.le_of_ble_eq_true rfl) (Nat.le_of_ble_eq_true rfl) ⟨Nat.le_refl _, Nat.le_refl _⟩ ?_
  refine x_istore dL_enters_162 (by decide) ?_
  show JX _ _ _ _ _ _ _ _ _ _ _ [_, _, _, _, _, _, _, _, _, _, _, _] _ _
  refine x_iload_n dL_enters_164 rfl ?_
  refine x_if_ge (tgt := 172) dL_enters_165 (by decide) ⟨by omega, by omega⟩ (fun hb165 => ?_) (fun h => (h (by omega)).elim)
  refine x_aload_n dL_enters_172 rfl ?_
  refine x_iload_n dL_enters_173 rfl ?_
  refine x_bipush dL_enters_174 (by decide) ?_
  refine x_iload_n dL_enters_176 rfl ?_
  refine x_iadd dL_enters_177 ?_
  refine c_RL_15d dL_enters_178 rfl (tc_s hP ht hc hgt) bk (Nat.le_of_ble_eq_true rfl) (Nat.le_of_ble_eq_true rfl) ⟨Nat.le_refl _, Nat.le_refl _⟩ ?_
  refine x_istore dL_enters_181 (by decide) ?_
  show JX _ _ _ _ _ _ _ _ _ _ _ [_, _, _, _, _, _, _, _, _, _, _, _] _ _
  refine x_aload_n dL_enters_183 rfl ?_
  refine x_iload_n dL_enters_184 rfl ?_
  refine x_bipush dL_enters_185 (by decide) ?_
  refine c_RL_22d dL_enters_187 rfl (tb_8 hP ht hk) bk (Nat.le_of_ble_eq_true rfl) (Nat.le_of_ble_eq_true rfl) ⟨Nat.le_refl _, Nat.le_refl _⟩ ?_
  refine x_istore dL_enters_190 (by decide) ?_
  show JX _ _ _ _ _ _ _ _ _ _ _ [_, _, _, _, _, _, _, _, _, _, _, _] _ _
  refine x_aload_n dL_enters_192 rfl ?_
  refine x_iload_n dL_enters_193 rfl ?_
  refine x_iload_n dL_enters_194 rfl ?_
  refine c_RL_66p dL_enters_195 rfl (kX7_enter hP.1 (Or.inl rfl) hP.2.1 ht2 ⟨by omega, by omega⟩ ⟨by omega, by omega⟩) bk (Nat.le_of_ble_eq_true rfl) (Nat.le_of_ble_eq_true rfl) ⟨Nat.le_refl _, Nat.le_refl _⟩ (fun w2 D2 h2 => ?_)
  obtain ⟨rfl, hP2⟩ := hP.some hz h2
  have cc3 : r (161 + 13 * c) = sCn r (100 + c) := kk
  refine x_istore dL_enters_198 (by decide) ?_
  show JX _ _ _ _ _ _ _ _ _ _ _ [_, _, _, _, _, _, _, _, _, _, _, _] _ _
  refine x_iload dL_enters_200 rfl ?_
  refine x_if_le (tgt := 240) dL_enters_202 (by decide) ⟨by omega, by omega⟩ (fun hb202 => ?_) (fun h => (h (by omega)).elim)
  refine x_iload dL_enters_240 rfl ?_
  refine x_iload dL_enters_242 rfl ?_
  refine x_ic_ne (tgt := 344) dL_enters_244 (by decide) ⟨by omega, by omega⟩ ⟨by omega, by omega⟩ (fun h => absurd h (by omega)) (fun hb244 => ?_)
  refine x_aload_n dL_enters_247 rfl ?_
  refine x_iload_n dL_enters_248 rfl ?_
  refine x_bipush dL_enters_249 (by decide) ?_
  refine c_RL_22d dL_enters_251 rfl (tb_7 hP2 ht2 hk2) bk (Nat.le_of_ble_eq_true rfl) (Nat.le_of_ble_eq_true rfl) ⟨Nat.le_refl _, Nat.le_refl _⟩ ?_
  refine x_bipush dL_enters_254 (by decide) ?_
  refine x_iload_n dL_enters_256 rfl ?_
  refine x_iadd dL_enters_257 ?_
  rw [m71]
  refine x_ic_ne (tgt := 344) dL_enters_258 (by decide) ⟨by omega, by omega⟩ ⟨by omega, by omega⟩ (fun h => absurd h (by omega)) (fun hb258 => ?_)
  refine x_aload_n dL_enters_261 rfl ?_
  refine x_iload_n dL_enters_262 rfl ?_
  refine x_iload_n dL_enters_263 rfl ?_
  refine x_if_ne (tgt := 271) dL_enters_264 (by decide) ⟨by omega, by omega⟩ (fun h => absurd h (by omega)) (fun hb264 => ?_)
  refine x_iconst dL_enters_267 ?_
  refine x_goto (tgt := 273) dL_enters_268 (by decide) ?_
  refine c_RL_38d dL_enters_273 rfl (tl_y hP2 ht2 hc2 ⟨by omega, by omega⟩ ⟨by omega, by omega⟩) bk (Nat.le_of_ble_eq_true rfl) (Nat.le_of_ble_eq_true rfl) ⟨Nat.le_refl _, Nat.le_refl _⟩ ?_
  rw [mg]
  refine x_iload_n dL_enters_276 rfl ?_
  refine x_ic_ne (tgt := 344) dL_enters_277 (by decide) ⟨by omega, by omega⟩ ⟨by omega, by omega⟩ (fun h => absurd h (by omega)) (fun hb277 => ?_)
  refine x_aload_n dL_enters_280 rfl ?_
  refine x_iload_n dL_enters_281 rfl ?_
  refine x_bipush dL_enters_282 (by decide) ?_
  refine x_iload_n dL_enters_284 rfl ?_
  refine x_iadd dL_enters_285 ?_
  refine c_RL_15d dL_enters_286 rfl (tc_p hP2 ht2 hc2 hgt) bk (Nat.le_of_ble_eq_true rfl) (Nat.le_of_ble_eq_true rfl) ⟨Nat.le_refl _, Nat.le_refl _⟩ ?_
  rw [m30]
  refine x_iload dL_enters_289 rfl ?_
  refine x_iconst dL_enters_291 ?_
  refine x_iadd dL_enters_292 ?_
  refine x_ic_ne (tgt := 344) dL_enters_293 (by decide) ⟨by omega, by omega⟩ ⟨by omega, by omega⟩ (fun h => absurd h (by omega)) (fun hb293 => ?_)
  refine x_aload_n dL_enters_296 rfl ?_
  refine x_iload_n dL_enters_297 rfl ?_
  refine x_bipush dL_enters_298 (by decide) ?_
  refine x_iload_n dL_enters_300 rfl ?_
  refine x_iadd dL_enters_301 ?_
  refine c_RL_15d dL_enters_302 rfl (tc_s hP2 ht2 hc2 hgt) bk (Nat.le_of_ble_eq_true rfl) (Nat.le_of_ble_eq_true rfl) ⟨Nat.le_refl _, Nat.le_refl _⟩ ?_
  rw [mHg]
  refine x_iload dL_enters_305 rfl ?_
  refine x_iload dL_enters_307 rfl ?_
  refine x_iconst dL_enters_309 ?_
  refine x_iadd dL_enters_310 ?_
  refine x_bipush dL_enters_311 (by decide) ?_
  refine x_irem dL_enters_313 ⟨by omega, by omega⟩ ⟨by omega, by omega⟩ (by omega) ?_
  rw [tm8]
  refine x_if_ne (tgt := 321) dL_enters_314 (by decide) ⟨by omega, by omega⟩ (fun hb314 => ?_) (fun hb314 => ?_)
  · refine x_iconst dL_enters_321 ?_
    refine x_iadd dL_enters_322 ?_
    refine x_ic_ne (tgt := 344) dL_enters_323 (by decide) ⟨by split <;> omega, by split <;> omega⟩ ⟨by omega, by omega⟩ (fun h => absurd h (by omega)) (fun hb323 => ?_)
    refine x_aload_n dL_enters_326 rfl ?_
    refine x_iload_n dL_enters_327 rfl ?_
    refine x_bipush dL_enters_328 (by decide) ?_
    refine c_RL_22d dL_enters_330 rfl (tb_8 hP2 ht2 hk2) bk (Nat.le_of_ble_eq_true rfl) (Nat.le_of_ble_eq_true rfl) ⟨Nat.le_refl _, Nat.le_refl _⟩ ?_
    rw [m72]
    refine x_iload dL_enters_333 rfl ?_
    refine x_iconst dL_enters_335 ?_
    refine x_iadd dL_enters_336 ?_
    refine x_ic_ne (tgt := 344) dL_enters_337 (by decide) ⟨by omega, by omega⟩ ⟨by omega, by omega⟩ (fun h => absurd h (by omega)) (fun hb337 => ?_)
    refine x_iconst dL_enters_340 ?_
    refine x_goto (tgt := 345) dL_enters_341 (by decide) ?_
    exact x_ireturn dL_enters_345 rfl (jbool (by first | exact Or.inl rfl | exact Or.inr rfl)).1 ⟨Nat.le_refl _, Nat.le_refl _⟩ ⟨rfl, _, rfl, rfl, _, _, _, _, hP2, hE3, k1a, k2a⟩
  · refine x_iconst dL_enters_317 ?_
    refine x_goto (tgt := 322) dL_enters_318 (by decide) ?_
    refine x_iadd dL_enters_322 ?_
    refine x_ic_ne (tgt := 344) dL_enters_323 (by decide) ⟨by split <;> omega, by split <;> omega⟩ ⟨by omega, by omega⟩ (fun h => absurd h (by omega)) (fun hb323 => ?_)
    refine x_aload_n dL_enters_326 rfl ?_
    refine x_iload_n dL_enters_327 rfl ?_
    refine x_bipush dL_enters_328 (by decide) ?_
    refine c_RL_22d dL_enters_330 rfl (tb_8 hP2 ht2 hk2) bk (Nat.le_of_ble_eq_true rfl) (Nat.le_of_ble_eq_true rfl) ⟨Nat.le_refl _, Nat.le_refl _⟩ ?_
    rw [m72]
    refine x_iload dL_enters_333 rfl ?_
    refine x_iconst dL_enters_335 ?_
    refine x_iadd dL_enters_336 ?_
    refine x_ic_ne (tgt := 344) dL_enters_337 (by decide) ⟨by omega, by omega⟩ ⟨by omega, by omega⟩ (fun h => absurd h (by omega)) (fun hb337 => ?_)
    refine x_iconst dL_enters_340 ?_
    refine x_goto (tgt := 345) dL_enters_341 (by decide) ?_
    exact x_ireturn dL_enters_345 rfl (jbool (by first | exact Or.inl rfl | exact Or.inr rfl)).1 ⟨Nat.le_refl _, Nat.le_refl _⟩ ⟨rfl, _, rfl, rfl, _, _, _, _, hP2, hE3, k1a, k2a⟩
theorem enters_01 {G : JG} {S : JS} {D : JD} {d : Nat} {X t n q : Int} {hs : Int → Int → Int} {r : Int → Int} {e : Int} {k c : Int} (hP : pSt S D X t n hs r q) (hE : pIn e r) (t0 : 0 ≤ t) (ht2 : t + 100 ≤ 60000) (hk : 0 ≤ k ∧ k < r 2) (hc : 0 ≤ c ∧ c < r 1) (h2 : ¬ r (29 + 11 * c) < 0) (h4 : ¬ r (71 + 8 * k) ≠ c + r (29 + 11 * c)) (h5 : ¬ gAgr r k) (h6 : ¬ sLf r c < r (65 + 8 * k)) (h7 : ¬ gDeep r k c (r (29 + 11 * c))) (hg0 : r (29 + 11 * c) = 1) : JM G yL_enters cL_enters 12 (some .boolean) (d + 7) (0, 0) S D [.inr (.inr (some X)), .inl k, .inl c] (jOK S X (t + 100) e (r 1) (r 2)) := by
  have ht : t ≤ 60000 := by omega
  have hB := hP.1
  have bk := hB.1
  have hI := hP.2.1.2.2.2.1
  have b1 := hI.1
  obtain ⟨c4, ln0, ln1, lf0, lf1, gt, s0, s1, s2, s3, sg, v0, v1, w0, w1, f0, f1, k0, k1, kk, a0, a1, g0, g1⟩ := hI.cB ht hc
  obtain ⟨bk0, q0, q1, q2, q3, q4, q5, q6, q7, q8, q9, q10, q11, bp, q13, q14, q15, q16, q17, q18⟩ := hI.bB ht hk
  have gA : (0 ≤ c ∧ c < r 1) ∧ (0 ≤ k ∧ k < r 2) := ⟨hc, hk⟩
  have hgt : r (29 + 11 * c) = 0 ∨ r (29 + 11 * c) = 1 := by omega
  have sgg := sg (r (29 + 11 * c)) hgt
  have pg : 0 ≤ r (30 + 11 * c + r (29 + 11 * c)) ∧ r (30 + 11 * c + r (29 + 11 * c)) ≤ 60000 := by
    rcases hgt with q | q
    · rw [q, show 30 + 11 * c + 0 = 30 + 11 * c by omega]; omega
    · rw [q, show 30 + 11 * c + 1 = 31 + 11 * c by omega]; omega
  have ta := tA_n h5
  have h7b : ¬ sLv r (100 + c) - sHg r c (r (29 + 11 * c)) - r 3 < sDr r k := h7
  obtain ⟨hI3, of, k1a, k2a, m71, m72, m30, mHg, m161, mg0, mg1, mLf⟩ := enter_nums hI hk hc hgt (by omega) (by omega)
  have hE3 := (hE.off hI of).all hI3
  have tm8 : (r (30 + 11 * c + r (29 + 11 * c)) + 1).tmod 8 = (r (30 + 11 * c + r (29 + 11 * c)) + 1) % 8 := Int.tmod_eq_emod_of_nonneg (by omega)
  have hc2 : 0 ≤ c ∧ c < sAll (rEnter k c (r (29 + 11 * c)) r) 1 := ⟨hc.1, by omega⟩
  have hk2 : 0 ≤ k ∧ k < sAll (rEnter k c (r (29 + 11 * c)) r) 2 := ⟨hk.1, by omega⟩
  have mg := mg1 hg0
  have hz : zEnter k c r = (sLf (rEnter k c (r (29 + 11 * c)) r) c, some (rEnter k c (r (29 + 11 * c)) r), 0) := by unfold zEnter; rw [if_pos ⟨hk, hc⟩, if_neg h2, if_neg h4, if_neg h5, if_neg h6, if_neg h7]
  rw [kk] at mg
  show JX _ _ _ _ _ _ _ _ _ _ _ [_, _, _, _, _, _, _, _, _, _, _, _] _ _
  refine x_aload_n dL_enters_0 rfl ?_
  refine x_iload_n dL_enters_1 rfl ?_
  refine x_bipush dL_enters_2 (by decide) ?_
  refine c_RL_15d dL_enters_4 rfl (tc_8 hP ht hc) bk (Nat.le_of_ble_eq_true rfl) (Nat.le_of_ble_eq_true rfl) ⟨Nat.le_refl _, Nat.le_refl _⟩ ?_
  refine x_istore_n dL_enters_7 (by decide) ?_
  show JX _ _ _ _ _ _ _ _ _ _ _ [_, _, _, _, _, _, _, _, _, _, _, _] _ _
  refine x_iload_n dL_enters_8 rfl ?_
  refine x_iload_n dL_enters_9 rfl ?_
  refine x_if_ge (tgt := 17) dL_enters_10 (by decide) ⟨by omega, by omega⟩ (fun hb10 => ?_) (fun h => (h (by omega)).elim)
  refine x_iload_n dL_enters_17 rfl ?_
  refine x_iadd dL_enters_18 ?_
  refine x_istore dL_enters_19 (by decide) ?_
  show JX _ _ _ _ _ _ _ _ _ _ _ [_, _, _, _, _, _, _, _, _, _, _, _] _ _
  refine x_aload_n dL_enters_21 rfl ?_
  refine x_iload_n dL_enters_22 rfl ?_
  refine x_iconst dL_enters_23 ?_
  refine c_RL_15d dL_enters_24 rfl (tc_3 hP ht hc) bk (Nat.le_of_ble_eq_true rfl) (Nat.le_of_ble_eq_true rfl) ⟨Nat.le_refl _, Nat.le_refl _⟩ ?_
  refine x_istore dL_enters_27 (by decide) ?_
  show JX _ _ _ _ _ _ _ _ _ _ _ [_, _, _, _, _, _, _, _, _, _, _, _] _ _
  refine x_iload_n dL_enters_29 rfl ?_
  refine x_if_ge (tgt := 37) dL_enters_30 (by decide) ⟨by omega, by omega⟩ (fun hb30 => ?_) (fun h => (h (by omega)).elim)
  refine x_aload_n dL_enters_37 rfl ?_
  refine x_iload_n dL_enters_38 rfl ?_
  refine x_bipush dL_enters_39 (by decide) ?_
  refine c_RL_22d dL_enters_41 rfl (tb_7 hP ht hk) bk (Nat.le_of_ble_eq_true rfl) (Nat.le_of_ble_eq_true rfl) ⟨Nat.le_refl _, Nat.le_refl _⟩ ?_
  refine x_iload dL_enters_44 rfl ?_
  refine x_ic_eq (tgt := 53) dL_enters_46 (by decide) ⟨by omega, by omega⟩ ⟨by omega, by omega⟩ (fun hb46 => ?_) (fun h => (h (by omega)).elim)
  refine x_aload_n dL_enters_53 rfl ?_
  refine x_iload_n dL_enters_54 rfl ?_
  refine x_bipush dL_enters_55 (by decide) ?_
  refine c_RL_22d dL_enters_57 rfl (tb_6 hP ht hk) bk (Nat.le_of_ble_eq_true rfl) (Nat.le_of_ble_eq_true rfl) ⟨Nat.le_refl _, Nat.le_refl _⟩ ?_
  rw [ta]
  refine x_iconst dL_enters_60 ?_
  refine x_ic_ne (tgt := 68) dL_enters_61 (by decide) ⟨by omega, by omega⟩ ⟨by omega, by omega⟩ (fun hb61 => ?_) (fun h => (h (by omega)).elim)
  refine x_aload_n dL_enters_68 rfl ?_
  refine x_iload_n dL_enters_69 rfl ?_
  refine x_iconst dL_enters_70 ?_
  refine c_RL_22d dL_enters_71 rfl (tb_0 hP ht hk) bk (Nat.le_of_ble_eq_true rfl) (Nat.le_of_ble_eq_true rfl) ⟨Nat.le_refl _, Nat.le_refl _⟩ ?_
  refine x_aload_n dL_enters_74 rfl ?_
  refine x_iload_n dL_enters_75 rfl ?_
  refine x_bipush dL_enters_76 (by decide) ?_
  refine c_RL_15d dL_enters_78 rfl (tc_7 hP ht hc) bk (Nat.le_of_ble_eq_true rfl) (Nat.le_of_ble_eq_true rfl) ⟨Nat.le_refl _, Nat.le_refl _⟩ ?_
  refine x_ic_le (tgt := 89) dL_enters_81 (by decide) ⟨by omega, by omega⟩ ⟨by omega, by omega⟩ (fun hb81 => ?_) (fun h => (h (by omega)).elim)
  refine x_aload_n dL_enters_89 rfl ?_
  refine x_iload_n dL_enters_90 rfl ?_
  refine x_iconst dL_enters_91 ?_
  refine c_RL_15d dL_enters_92 rfl (tc_0 hP ht hc) bk (Nat.le_of_ble_eq_true rfl) (Nat.le_of_ble_eq_true rfl) ⟨Nat.le_refl _, Nat.le_refl _⟩ ?_
  refine x_aload_n dL_enters_95 rfl ?_
  refine x_iload_n dL_enters_96 rfl ?_
  refine x_bipush dL_enters_97 (by decide) ?_
  refine x_iload_n dL_enters_99 rfl ?_
  refine x_iadd dL_enters_100 ?_
  refine c_RL_15d dL_enters_101 rfl (tc_s hP ht hc hgt) bk (Nat.le_of_ble_eq_true rfl) (Nat.le_of_ble_eq_true rfl) ⟨Nat.le_refl _, Nat.le_refl _⟩ ?_
  refine x_isub dL_enters_104 ?_
  refine x_aload_n dL_enters_105 rfl ?_
  refine x_iload_n dL_enters_106 rfl ?_
  refine x_iconst dL_enters_107 ?_
  refine c_RL_22d dL_enters_108 rfl (tb_2 hP ht hk) bk (Nat.le_of_ble_eq_true rfl) (Nat.le_of_ble_eq_true rfl) ⟨Nat.le_refl _, Nat.le_refl _⟩ ?_
  refine x_aload_n dL_enters_111 rfl ?_
  refine x_bipush dL_enters_112 (by decide) ?_
  refine c_RL_18d dL_enters_114 rfl (tn_6 hP ht) bk (Nat.le_of_ble_eq_true rfl) (Nat.le_of_ble_eq_true rfl) ⟨Nat.le_refl _, Nat.le_refl _⟩ ?_
  refine x_iadd dL_enters_117 ?_
  refine x_ic_ge (tgt := 126) dL_enters_118 (by decide) ⟨by omega, by omega⟩ ⟨by omega, by omega⟩ (fun hb118 => ?_) (fun h => (h (by omega)).elim)
  refine x_iconst dL_enters_126 ?_
  refine x_istore dL_enters_127 (by decide) ?_
  show JX _ _ _ _ _ _ _ _ _ _ _ [_, _, _, _, _, _, _, _, _, _, _, _] _ _
  refine x_aload_n dL_enters_129 rfl ?_
  refine x_iload_n dL_enters_130 rfl ?_
  refine x_bipush dL_enters_131 (by decide) ?_
  refine c_RL_15d dL_enters_133 rfl (tc_7 hP ht hc) bk (Nat.le_of_ble_eq_true rfl) (Nat.le_of_ble_eq_true rfl) ⟨Nat.le_refl _, Nat.le_refl _⟩ ?_
  refine x_aload_n dL_enters_136 rfl ?_
  refine x_iload_n dL_enters_137 rfl ?_
  refine x_iconst dL_enters_138 ?_
  refine c_RL_22d dL_enters_139 rfl (tb_0 hP ht hk) bk (Nat.le_of_ble_eq_true rfl) (Nat.le_of_ble_eq_true rfl) ⟨Nat.le_refl _, Nat.le_refl _⟩ ?_
  refine x_isub dL_enters_142 ?_
  refine x_istore dL_enters_143 (by decide) ?_
  show JX _ _ _ _ _ _ _ _ _ _ _ [_, _, _, _, _, _, _, _, _, _, _, _] _ _
  refine x_iload_n dL_enters_145 rfl ?_
  refine x_if_ge (tgt := 153) dL_enters_146 (by decide) ⟨by omega, by omega⟩ (fun hb146 => ?_) (fun h => (h (by omega)).elim)
  refine x_aload_n dL_enters_153 rfl ?_
  refine x_iload_n dL_enters_154 rfl ?_
  refine x_bipush dL_enters_155 (by decide) ?_
  refine x_iload_n dL_enters_157 rfl ?_
  refine x_iadd dL_enters_158 ?_
  refine c_RL_15d dL_enters_159 rfl (tc_p hP ht hc hgt) bk (Nat.le_of_ble_eq_true rfl) (Nat.le_of_ble_eq_true rfl) ⟨Nat.le_refl _, Nat.le_refl _⟩ ?_
  refine x_istore dL_enters_162 (by decide) ?_
  show JX _ _ _ _ _ _ _ _ _ _ _ [_, _, _, _, _, _, _, _, _, _, _, _] _ _
  refine x_iload_n dL_enters_164 rfl ?_
  refine x_if_ge (tgt := 172) dL_enters_165 (by decide) ⟨by omega, by omega⟩ (fun hb165 => ?_) (fun h => (h (by omega)).elim)
  refine x_aload_n dL_enters_172 rfl ?_
  refine x_iload_n dL_enters_173 rfl ?_
  refine x_bipush dL_enters_174 (by decide) ?_
  refine x_iload_n dL_enters_176 rfl ?_
  refine x_iadd dL_enters_177 ?_
  refine c_RL_15d dL_enters_178 rfl (tc_s hP ht hc hgt) bk (Nat.le_of_ble_eq_true rfl) (Nat.le_of_ble_eq_true rfl) ⟨Nat.le_refl _, Nat.le_refl _⟩ ?_
  refine x_istore dL_enters_181 (by decide) ?_
  show JX _ _ _ _ _ _ _ _ _ _ _ [_, _, _, _, _, _, _, _, _, _, _, _] _ _
  refine x_aload_n dL_enters_183 rfl ?_
  refine x_iload_n dL_enters_184 rfl ?_
  refine x_bipush dL_enters_185 (by decide) ?_
  refine c_RL_22d dL_enters_187 rfl (tb_8 hP ht hk) bk (Nat.le_of_ble_eq_true rfl) (Nat.le_of_ble_eq_true rfl) ⟨Nat.le_refl _, Nat.le_refl _⟩ ?_
  refine x_istore dL_enters_190 (by decide) ?_
  show JX _ _ _ _ _ _ _ _ _ _ _ [_, _, _, _, _, _, _, _, _, _, _, _] _ _
  refine x_aload_n dL_enters_192 rfl ?_
  refine x_iload_n dL_enters_193 rfl ?_
  refine x_iload_n dL_enters_194 rfl ?_
  refine c_RL_66p dL_enters_195 rfl (kX7_enter hP.1 (Or.inl rfl) hP.2.1 ht2 ⟨by omega, by omega⟩ ⟨by omega, by omega⟩) bk (Nat.le_of_ble_eq_true rfl) (Nat.le_of_ble_eq_true rfl) ⟨Nat.le_refl _, Nat.le_refl _⟩ (fun w2 D2 h2 => ?_)
  obtain ⟨rfl, hP2⟩ := hP.some hz h2
  have cc3 : r (161 + 13 * c) = sCn r (100 + c) := kk
  refine x_istore dL_enters_198 (by decide) ?_
  show JX _ _ _ _ _ _ _ _ _ _ _ [_, _, _, _, _, _, _, _, _, _, _, _] _ _
  refine x_iload dL_enters_200 rfl ?_
  refine x_if_le (tgt := 240) dL_enters_202 (by decide) ⟨by omega, by omega⟩ (fun hb202 => ?_) (fun h => (h (by omega)).elim)
  refine x_iload dL_enters_240 rfl ?_
  refine x_iload dL_enters_242 rfl ?_
  refine x_ic_ne (tgt := 344) dL_enters_244 (by decide) ⟨by omega, by omega⟩ ⟨by omega, by omega⟩ (fun h => absurd h (by omega)) (fun hb244 => ?_)
  refine x_aload_n dL_enters_247 rfl ?_
  refine x_iload_n dL_enters_248 rfl ?_
  refine x_bipush dL_enters_249 (by decide) ?_
  refine c_RL_22d dL_enters_251 rfl (tb_7 hP2 ht2 hk2) bk (Nat.le_of_ble_eq_true rfl) (Nat.le_of_ble_eq_true rfl) ⟨Nat.le_refl _, Nat.le_refl _⟩ ?_
  refine x_bipush dL_enters_254 (by decide) ?_
  refine x_iload_n dL_enters_256 rfl ?_
  refine x_iadd dL_enters_257 ?_
  rw [m71]
  refine x_ic_ne (tgt := 344) dL_enters_258 (by decide) ⟨by omega, by omega⟩ ⟨by omega, by omega⟩ (fun h => absurd h (by omega)) (fun hb258 => ?_)
  refine x_aload_n dL_enters_261 rfl ?_
  refine x_iload_n dL_enters_262 rfl ?_
  refine x_iload_n dL_enters_263 rfl ?_
  refine x_if_ne (tgt := 271) dL_enters_264 (by decide) ⟨by omega, by omega⟩ (fun hb264 => ?_) (fun h => (h (by omega)).elim)
  refine x_iload dL_enters_271 rfl ?_
  refine c_RL_38d dL_enters_273 rfl (tl_y hP2 ht2 hc2 ⟨by omega, by omega⟩ ⟨by omega, by omega⟩) bk (Nat.le_of_ble_eq_true rfl) (Nat.le_of_ble_eq_true rfl) ⟨Nat.le_refl _, Nat.le_refl _⟩ ?_
  rw [mg]
  refine x_iload_n dL_enters_276 rfl ?_
  refine x_ic_ne (tgt := 344) dL_enters_277 (by decide) ⟨by omega, by omega⟩ ⟨by omega, by omega⟩ (fun h => absurd h (by omega)) (fun hb277 => ?_)
  refine x_aload_n dL_enters_280 rfl ?_
  refine x_iload_n dL_enters_281 rfl ?_
  refine x_bipush dL_enters_282 (by decide) ?_
  refine x_iload_n dL_enters_284 rfl ?_
  refine x_iadd dL_enters_285 ?_
  refine c_RL_15d dL_enters_286 rfl (tc_p hP2 ht2 hc2 hgt) bk (Nat.le_of_ble_eq_true rfl) (Nat.le_of_ble_eq_true rfl) ⟨Nat.le_refl _, Nat.le_refl _⟩ ?_
  rw [m30]
  refine x_iload dL_enters_289 rfl ?_
  refine x_iconst dL_enters_291 ?_
  refine x_iadd dL_enters_292 ?_
  refine x_ic_ne (tgt := 344) dL_enters_293 (by decide) ⟨by omega, by omega⟩ ⟨by omega, by omega⟩ (fun h => absurd h (by omega)) (fun hb293 => ?_)
  refine x_aload_n dL_enters_296 rfl ?_
  refine x_iload_n dL_enters_297 rfl ?_
  refine x_bipush dL_enters_298 (by decide) ?_
  refine x_iload_n dL_enters_300 rfl ?_
  refine x_iadd dL_enters_301 ?_
  refine c_RL_15d dL_enters_302 rfl (tc_s hP2 ht2 hc2 hgt) bk (Nat.le_of_ble_eq_true rfl) (Nat.le_of_ble_eq_true rfl) ⟨Nat.le_refl _, Nat.le_refl _⟩ ?_
  rw [mHg]
  refine x_iload dL_enters_305 rfl ?_
  refine x_iload dL_enters_307 rfl ?_
  refine x_iconst dL_enters_309 ?_
  refine x_iadd dL_enters_310 ?_
  refine x_bipush dL_enters_311 (by decide) ?_
  refine x_irem dL_enters_313 ⟨by omega, by omega⟩ ⟨by omega, by omega⟩ (by omega) ?_
  rw [tm8]
  refine x_if_ne (tgt := 321) dL_enters_314 (by decide) ⟨by omega, by omega⟩ (fun hb314 => ?_) (fun hb314 => ?_)
  · refine x_iconst dL_enters_321 ?_
    refine x_iadd dL_enters_322 ?_
    refine x_ic_ne (tgt := 344) dL_enters_323 (by decide) ⟨by split <;> omega, by split <;> omega⟩ ⟨by omega, by omega⟩ (fun h => absurd h (by omega)) (fun hb323 => ?_)
    refine x_aload_n dL_enters_326 rfl ?_
    refine x_iload_n dL_enters_327 rfl ?_
    refine x_bipush dL_enters_328 (by decide) ?_
    refine c_RL_22d dL_enters_330 rfl (tb_8 hP2 ht2 hk2) bk (Nat.le_of_ble_eq_true rfl) (Nat.le_of_ble_eq_true rfl) ⟨Nat.le_refl _, Nat.le_refl _⟩ ?_
    rw [m72]
    refine x_iload dL_enters_333 rfl ?_
    refine x_iconst dL_enters_335 ?_
    refine x_iadd dL_enters_336 ?_
    refine x_ic_ne (tgt := 344) dL_enters_337 (by decide) ⟨by omega, by omega⟩ ⟨by omega, by omega⟩ (fun h => absurd h (by omega)) (fun hb337 => ?_)
    refine x_iconst dL_enters_340 ?_
    refine x_goto (tgt := 345) dL_enters_341 (by decide) ?_
    exact x_ireturn dL_enters_345 rfl (jbool (by first | exact Or.inl rfl | exact Or.inr rfl)).1 ⟨Nat.le_refl _, Nat.le_refl _⟩ ⟨rfl, _, rfl, rfl, _, _, _, _, hP2, hE3, k1a, k2a⟩
  · refine x_iconst dL_enters_317 ?_
    refine x_goto (tgt := 322) dL_enters_318 (by decide) ?_
    refine x_iadd dL_enters_322 ?_
    refine x_ic_ne (tgt := 344) dL_enters_323 (by decide) ⟨by split <;> omega, by split <;> omega⟩ ⟨by omega, by omega⟩ (fun h => absurd h (by omega)) (fun hb323 => ?_)
    refine x_aload_n dL_enters_326 rfl ?_
    refine x_iload_n dL_enters_327 rfl ?_
    refine x_bipush dL_enters_328 (by decide) ?_
    refine c_RL_22d dL_enters_330 rfl (tb_8 hP2 ht2 hk2) bk (Nat.le_of_ble_eq_true rfl) (Nat.le_of_ble_eq_true rfl) ⟨Nat.le_refl _, Nat.le_refl _⟩ ?_
    rw [m72]
    refine x_iload dL_enters_333 rfl ?_
    refine x_iconst dL_enters_335 ?_
    refine x_iadd dL_enters_336 ?_
    refine x_ic_ne (tgt := 344) dL_enters_337 (by decide) ⟨by omega, by omega⟩ ⟨by omega, by omega⟩ (fun h => absurd h (by omega)) (fun hb337 => ?_)
    refine x_iconst dL_enters_340 ?_
    refine x_goto (tgt := 345) dL_enters_341 (by decide) ?_
    exact x_ireturn dL_enters_345 rfl (jbool (by first | exact Or.inl rfl | exact Or.inr rfl)).1 ⟨Nat.le_refl _, Nat.le_refl _⟩ ⟨rfl, _, rfl, rfl, _, _, _, _, hP2, hE3, k1a, k2a⟩
theorem kL_enters {G : JG} {S : JS} {D : JD} {d : Nat} {X t n q : Int} {hs : Int → Int → Int} {r : Int → Int} {e : Int} {k c : Int} (hP : pSt S D X t n hs r q) (hE : pIn e r) (t0 : 0 ≤ t) (ht2 : t + 100 ≤ 60000) (hk : 0 ≤ k ∧ k < r 2) (hc : 0 ≤ c ∧ c < r 1) : JM G yL_enters cL_enters 12 (some .boolean) (d + 7) (0, 0) S D [.inr (.inr (some X)), .inl k, .inl c] (jOK S X (t + 100) e (r 1) (r 2)) := by
  by_cases h2 : r (29 + 11 * c) < 0
  · exact enters_2 hP hE t0 ht2 hk hc h2
  by_cases h4 : r (71 + 8 * k) ≠ c + r (29 + 11 * c)
  · exact enters_4 hP hE t0 ht2 hk hc h2 h4
  by_cases h5 : gAgr r k
  · exact enters_5 hP hE t0 ht2 hk hc h2 h4 h5
  by_cases h6 : sLf r c < r (65 + 8 * k)
  · exact enters_6 hP hE t0 ht2 hk hc h2 h4 h5 h6
  by_cases h7 : gDeep r k c (r (29 + 11 * c))
  · exact enters_7 hP hE t0 ht2 hk hc h2 h4 h5 h6 h7
  have hI := hP.2.1.2.2.2.1
  have gt := hI.gates c hc.1 hc.2
  rcases (show r (29 + 11 * c) = 0 ∨ r (29 + 11 * c) = 1 by omega) with q | q
  · exact enters_00 hP hE t0 ht2 hk hc h2 h4 h5 h6 h7 q
  · exact enters_01 hP hE t0 ht2 hk hc h2 h4 h5 h6 h7 q
