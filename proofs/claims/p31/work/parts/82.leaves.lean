/-! THE LAW: leaves -/
theorem leave_nums {t c g : Int} {r : Int → Int} (hI : rIn t r) (hc : 0 ≤ c ∧ c < r 1) (hg : g = 0 ∨ g = 1) (hn : r (161 + 13 * c) ≠ 0) :
    rIn (t + 1) (rLeave (sNext r c g) c g r) ∧ pOff r (rLeave (sNext r c g) c g r) ∧ sAll (rLeave (sNext r c g) c g r) 1 = r 1 ∧ sAll (rLeave (sNext r c g) c g r) 2 = r 2 ∧ sAll (rLeave (sNext r c g) c g r) (71 + 8 * sNext r c g) = c + g ∧ sAll (rLeave (sNext r c g) c g r) (161 + 13 * c) = r (161 + 13 * c) - 1 ∧
    (2 ≤ r (161 + 13 * c) → sAll (rLeave (sNext r c g) c g r) (162 + 13 * c + 0) = if g = 0 then r (162 + 13 * c + 1) else r (162 + 13 * c + 0)) := by
  have b1 := hI.1
  obtain ⟨k0, k1, kp⟩ := hI.next (g := g) hc.1 hc.2 hn
  have e := psd_out (g := g) (k := sNext r c g) hI hc.1 hc.2
  have il : ∀ j : Int, 161 ≤ j → rLeave (sNext r c g) c g r j = rLineOut c g r j := fun j hj => out_line hI hc.1 hc.2 hg k0 k1 hj
  obtain ⟨n1, -, -, -⟩ := out_num (g := g) (k := sNext r c g) hI hc.1 hc.2 hg k0 k1
  have hI3 := hI.leave (g := g) hc.1 hc.2 hg hn rfl
  have q1 : rLeave (sNext r c g) c g r 1 = r 1 := e _ (by omega) (by omega) (by omega) (by omega) (by omega)
  have q2 : rLeave (sNext r c g) c g r 2 = r 2 := e _ (by omega) (by omega) (by omega) (by omega) (by omega)
  refine ⟨hI3, pOff.psd hc.1 hg (by omega) k0 e, by rw [hI3.keep (by omega)]; exact q1, by rw [hI3.keep (by omega)]; exact q2, by rw [hI3.keep (by omega)]; exact n1, by rw [hI3.keep (by omega), il _ (by omega), rLineOut_n], fun h => ?_⟩
  rw [hI3.keep (by omega), il _ (by omega), rLineOut_z (by omega) (by omega), show (0 : Int) + 1 = 1 by omega]
theorem leaves_002 {G : JG} {S : JS} {D : JD} {d : Nat} {X t n q : Int} {hs : Int → Int → Int} {r : Int → Int} {e : Int} {c : Int} (hP : pSt S D X t n hs r q) (hE : pIn e r) (t0 : 0 ≤ t) (ht2 : t + 100 ≤ 60000) (hc : 0 ≤ c ∧ c < r 1) (h2 : r (29 + 11 * c) ≠ 0) (hn : r (161 + 13 * c) = 0) : JM G yL_leaves cL_leaves 8 (some .boolean) (d + 7) (0, 0) S D [.inr (.inr (some X)), .inl c, .inl 0] (jOK S X (t + 100) e (r 1) (r 2)) := by
  have ht : t ≤ 60000 := by omega
  have hB := hP.1
  have bk := hB.1
  have hI := hP.2.1.2.2.2.1
  have b1 := hI.1
  obtain ⟨c4, ln0, ln1, lf0, lf1, gt, s0, s1, s2, s3, sg, v0, v1, w0, w1, f0, f1, k0, k1, kk, a0, a1, g0, g1⟩ := hI.cB ht hc
  have hg : (0 : Int) = 0 ∨ (0 : Int) = 1 := by omega
  have sgg := sg 0 hg
  have hz : zLeave c 0 r = (-100000003, none, 2) := by unfold zLeave; rw [if_pos ⟨hc, hg⟩, if_pos h2]
  show JX _ _ _ _ _ _ _ _ _ _ _ [_, _, _, _, _, _, _, _] _ _
  refine x_aload_n dL_leaves_0 rfl ?_
  refine x_iload_n dL_leaves_1 rfl ?_
  refine x_iconst dL_leaves_2 ?_
  refine c_RL_15d dL_leaves_3 rfl (tc_3 hP ht hc) bk (Nat.le_of_ble_eq_true rfl) (Nat.le_of_ble_eq_true rfl) ⟨Nat.le_refl _, Nat.le_refl _⟩ ?_
  refine x_istore_n dL_leaves_6 (by decide) ?_
  show JX _ _ _ _ _ _ _ _ _ _ _ [_, _, _, _, _, _, _, _] _ _
  refine x_iload_n dL_leaves_7 rfl ?_
  refine x_if_ne (tgt := 15) dL_leaves_8 (by decide) ⟨by omega, by omega⟩ (fun h => absurd h (by omega)) (fun hb8 => ?_)
  refine x_iconst dL_leaves_11 ?_
  refine x_goto (tgt := 31) dL_leaves_12 (by decide) ?_
  refine x_istore dL_leaves_31 (by decide) ?_
  show JX _ _ _ _ _ _ _ _ _ _ _ [_, _, _, _, _, _, _, _] _ _
  refine x_iload_n dL_leaves_33 rfl ?_
  refine x_iconst dL_leaves_34 ?_
  refine x_ic_ge (tgt := 43) dL_leaves_35 (by decide) ⟨by omega, by omega⟩ ⟨by omega, by omega⟩ (fun h => absurd h (by omega)) (fun hb35 => ?_)
  refine x_ldc (e := -100000005) dL_leaves_38 ct_RL_41 (by decide) ?_
  refine x_goto (tgt := 62) dL_leaves_40 (by decide) ?_
  refine x_istore dL_leaves_62 (by decide) ?_
  show JX _ _ _ _ _ _ _ _ _ _ _ [_, _, _, _, _, _, _, _] _ _
  refine x_aload_n dL_leaves_64 rfl ?_
  refine x_iload_n dL_leaves_65 rfl ?_
  refine x_bipush dL_leaves_66 (by decide) ?_
  refine c_RL_15d dL_leaves_68 rfl (tc_8 hP ht hc) bk (Nat.le_of_ble_eq_true rfl) (Nat.le_of_ble_eq_true rfl) ⟨Nat.le_refl _, Nat.le_refl _⟩ ?_
  refine x_iload_n dL_leaves_71 rfl ?_
  refine x_ic_eq (tgt := 79) dL_leaves_72 (by decide) ⟨by omega, by omega⟩ ⟨by omega, by omega⟩ (fun h => absurd h (by omega)) (fun hb72 => ?_)
  refine x_iconst dL_leaves_75 ?_
  refine x_goto (tgt := 142) dL_leaves_76 (by decide) ?_
  refine x_istore dL_leaves_142 (by decide) ?_
  show JX _ _ _ _ _ _ _ _ _ _ _ [_, _, _, _, _, _, _, _] _ _
  refine x_aload_n dL_leaves_144 rfl ?_
  refine x_iload_n dL_leaves_145 rfl ?_
  refine x_iload_n dL_leaves_146 rfl ?_
  refine c_RL_69p dL_leaves_147 rfl (kX7_leave hP.1 (Or.inl rfl) hP.2.1 ht2 ⟨by omega, by omega⟩ ⟨by omega, by omega⟩) bk (Nat.le_of_ble_eq_true rfl) (Nat.le_of_ble_eq_true rfl) ⟨Nat.le_refl _, Nat.le_refl _⟩ (fun w2 D2 h2 => ?_)
  obtain ⟨rfl, hP2⟩ := hP.ref hz (by decide) h2
  refine x_istore dL_leaves_150 (by decide) ?_
  show JX _ _ _ _ _ _ _ _ _ _ _ [_, _, _, _, _, _, _, _] _ _
  refine x_iload dL_leaves_152 rfl ?_
  refine x_if_le (tgt := 191) dL_leaves_154 (by decide) ⟨by omega, by omega⟩ (fun h => absurd h (by omega)) (fun hb154 => ?_)
  refine x_iload dL_leaves_157 rfl ?_
  refine x_ldc (e := -100000003) dL_leaves_159 ct_RL_59 (by decide) ?_
  refine x_ic_ne (tgt := 189) dL_leaves_161 (by decide) ⟨by omega, by omega⟩ ⟨by omega, by omega⟩ (fun h => absurd h (by omega)) (fun hb161 => ?_)
  refine x_aload_n dL_leaves_164 rfl ?_
  refine x_bipush dL_leaves_165 (by decide) ?_
  refine c_RL_18d dL_leaves_167 rfl (tn_7 hP2 ht2) bk (Nat.le_of_ble_eq_true rfl) (Nat.le_of_ble_eq_true rfl) ⟨Nat.le_refl _, Nat.le_refl _⟩ ?_
  refine x_iload dL_leaves_170 rfl ?_
  refine x_ic_ne (tgt := 189) dL_leaves_172 (by decide) ⟨by omega, by omega⟩ ⟨by omega, by omega⟩ (fun h => absurd h (by omega)) (fun hb172 => ?_)
  refine x_aload_n dL_leaves_175 rfl ?_
  refine x_iload_n dL_leaves_176 rfl ?_
  refine x_iconst dL_leaves_177 ?_
  refine c_RL_15d dL_leaves_178 rfl (tc_3 hP2 ht2 hc) bk (Nat.le_of_ble_eq_true rfl) (Nat.le_of_ble_eq_true rfl) ⟨Nat.le_refl _, Nat.le_refl _⟩ ?_
  refine x_iload_n dL_leaves_181 rfl ?_
  refine x_ic_ne (tgt := 189) dL_leaves_182 (by decide) ⟨by omega, by omega⟩ ⟨by omega, by omega⟩ (fun h => absurd h (by omega)) (fun hb182 => ?_)
  refine x_iconst dL_leaves_185 ?_
  refine x_goto (tgt := 190) dL_leaves_186 (by decide) ?_
  exact x_ireturn dL_leaves_190 rfl (jbool (by first | exact Or.inl rfl | exact Or.inr rfl)).1 ⟨Nat.le_refl _, Nat.le_refl _⟩ ⟨rfl, _, rfl, rfl, _, _, _, _, hP2, hE, rfl, rfl⟩
theorem leaves_004 {G : JG} {S : JS} {D : JD} {d : Nat} {X t n q : Int} {hs : Int → Int → Int} {r : Int → Int} {e : Int} {c : Int} (hP : pSt S D X t n hs r q) (hE : pIn e r) (t0 : 0 ≤ t) (ht2 : t + 100 ≤ 60000) (hc : 0 ≤ c ∧ c < r 1) (h2 : ¬ r (29 + 11 * c) ≠ 0) (h4 : r (161 + 13 * c) = 0) (hn : r (161 + 13 * c) = 0) : JM G yL_leaves cL_leaves 8 (some .boolean) (d + 7) (0, 0) S D [.inr (.inr (some X)), .inl c, .inl 0] (jOK S X (t + 100) e (r 1) (r 2)) := by
  have ht : t ≤ 60000 := by omega
  have hB := hP.1
  have bk := hB.1
  have hI := hP.2.1.2.2.2.1
  have b1 := hI.1
  obtain ⟨c4, ln0, ln1, lf0, lf1, gt, s0, s1, s2, s3, sg, v0, v1, w0, w1, f0, f1, k0, k1, kk, a0, a1, g0, g1⟩ := hI.cB ht hc
  have hg : (0 : Int) = 0 ∨ (0 : Int) = 1 := by omega
  have sgg := sg 0 hg
  have hz : zLeave c 0 r = (-100000003, none, 4) := by unfold zLeave; rw [if_pos ⟨hc, hg⟩, if_neg h2, if_pos h4]
  show JX _ _ _ _ _ _ _ _ _ _ _ [_, _, _, _, _, _, _, _] _ _
  refine x_aload_n dL_leaves_0 rfl ?_
  refine x_iload_n dL_leaves_1 rfl ?_
  refine x_iconst dL_leaves_2 ?_
  refine c_RL_15d dL_leaves_3 rfl (tc_3 hP ht hc) bk (Nat.le_of_ble_eq_true rfl) (Nat.le_of_ble_eq_true rfl) ⟨Nat.le_refl _, Nat.le_refl _⟩ ?_
  refine x_istore_n dL_leaves_6 (by decide) ?_
  show JX _ _ _ _ _ _ _ _ _ _ _ [_, _, _, _, _, _, _, _] _ _
  refine x_iload_n dL_leaves_7 rfl ?_
  refine x_if_ne (tgt := 15) dL_leaves_8 (by decide) ⟨by omega, by omega⟩ (fun h => absurd h (by omega)) (fun hb8 => ?_)
  refine x_iconst dL_leaves_11 ?_
  refine x_goto (tgt := 31) dL_leaves_12 (by decide) ?_
  refine x_istore dL_leaves_31 (by decide) ?_
  show JX _ _ _ _ _ _ _ _ _ _ _ [_, _, _, _, _, _, _, _] _ _
  refine x_iload_n dL_leaves_33 rfl ?_
  refine x_iconst dL_leaves_34 ?_
  refine x_ic_ge (tgt := 43) dL_leaves_35 (by decide) ⟨by omega, by omega⟩ ⟨by omega, by omega⟩ (fun h => absurd h (by omega)) (fun hb35 => ?_)
  refine x_ldc (e := -100000005) dL_leaves_38 ct_RL_41 (by decide) ?_
  refine x_goto (tgt := 62) dL_leaves_40 (by decide) ?_
  refine x_istore dL_leaves_62 (by decide) ?_
  show JX _ _ _ _ _ _ _ _ _ _ _ [_, _, _, _, _, _, _, _] _ _
  refine x_aload_n dL_leaves_64 rfl ?_
  refine x_iload_n dL_leaves_65 rfl ?_
  refine x_bipush dL_leaves_66 (by decide) ?_
  refine c_RL_15d dL_leaves_68 rfl (tc_8 hP ht hc) bk (Nat.le_of_ble_eq_true rfl) (Nat.le_of_ble_eq_true rfl) ⟨Nat.le_refl _, Nat.le_refl _⟩ ?_
  refine x_iload_n dL_leaves_71 rfl ?_
  refine x_ic_eq (tgt := 79) dL_leaves_72 (by decide) ⟨by omega, by omega⟩ ⟨by omega, by omega⟩ (fun hb72 => ?_) (fun h => (h (by omega)).elim)
  refine x_iload_n dL_leaves_79 rfl ?_
  refine x_if_ne (tgt := 87) dL_leaves_80 (by decide) ⟨by omega, by omega⟩ (fun h => absurd h (by omega)) (fun hb80 => ?_)
  refine x_iconst dL_leaves_83 ?_
  refine x_goto (tgt := 142) dL_leaves_84 (by decide) ?_
  refine x_istore dL_leaves_142 (by decide) ?_
  show JX _ _ _ _ _ _ _ _ _ _ _ [_, _, _, _, _, _, _, _] _ _
  refine x_aload_n dL_leaves_144 rfl ?_
  refine x_iload_n dL_leaves_145 rfl ?_
  refine x_iload_n dL_leaves_146 rfl ?_
  refine c_RL_69p dL_leaves_147 rfl (kX7_leave hP.1 (Or.inl rfl) hP.2.1 ht2 ⟨by omega, by omega⟩ ⟨by omega, by omega⟩) bk (Nat.le_of_ble_eq_true rfl) (Nat.le_of_ble_eq_true rfl) ⟨Nat.le_refl _, Nat.le_refl _⟩ (fun w2 D2 h2 => ?_)
  obtain ⟨rfl, hP2⟩ := hP.ref hz (by decide) h2
  refine x_istore dL_leaves_150 (by decide) ?_
  show JX _ _ _ _ _ _ _ _ _ _ _ [_, _, _, _, _, _, _, _] _ _
  refine x_iload dL_leaves_152 rfl ?_
  refine x_if_le (tgt := 191) dL_leaves_154 (by decide) ⟨by omega, by omega⟩ (fun h => absurd h (by omega)) (fun hb154 => ?_)
  refine x_iload dL_leaves_157 rfl ?_
  refine x_ldc (e := -100000003) dL_leaves_159 ct_RL_59 (by decide) ?_
  refine x_ic_ne (tgt := 189) dL_leaves_161 (by decide) ⟨by omega, by omega⟩ ⟨by omega, by omega⟩ (fun h => absurd h (by omega)) (fun hb161 => ?_)
  refine x_aload_n dL_leaves_164 rfl ?_
  refine x_bipush dL_leaves_165 (by decide) ?_
  refine c_RL_18d dL_leaves_167 rfl (tn_7 hP2 ht2) bk (Nat.le_of_ble_eq_true rfl) (Nat.le_of_ble_eq_true rfl) ⟨Nat.le_refl _, Nat.le_refl _⟩ ?_
  refine x_iload dL_leaves_170 rfl ?_
  refine x_ic_ne (tgt := 189) dL_leaves_172 (by decide) ⟨by omega, by omega⟩ ⟨by omega, by omega⟩ (fun h => absurd h (by omega)) (fun hb172 => ?_)
  refine x_aload_n dL_leaves_175 rfl ?_
  refine x_iload_n dL_leaves_176 rfl ?_
  refine x_iconst dL_leaves_177 ?_
  refine c_RL_15d dL_leaves_178 rfl (tc_3 hP2 ht2 hc) bk (Nat.le_of_ble_eq_true rfl) (Nat.le_of_ble_eq_true rfl) ⟨Nat.le_refl _, Nat.le_refl _⟩ ?_
  refine x_iload_n dL_leaves_181 rfl ?_
  refine x_ic_ne (tgt := 189) dL_leaves_182 (by decide) ⟨by omega, by omega⟩ ⟨by omega, by omega⟩ (fun h => absurd h (by omega)) (fun hb182 => ?_)
  refine x_iconst dL_leaves_185 ?_
  refine x_goto (tgt := 190) dL_leaves_186 (by decide) ?_
  exact x_ireturn dL_leaves_190 rfl (jbool (by first | exact Or.inl rfl | exact Or.inr rfl)).1 ⟨Nat.le_refl _, Nat.le_refl _⟩ ⟨rfl, _, rfl, rfl, _, _, _, _, hP2, hE, rfl, rfl⟩
theorem leaves_012 {G : JG} {S : JS} {D : JD} {d : Nat} {X t n q : Int} {hs : Int → Int → Int} {r : Int → Int} {e : Int} {c : Int} (hP : pSt S D X t n hs r q) (hE : pIn e r) (t0 : 0 ≤ t) (ht2 : t + 100 ≤ 60000) (hc : 0 ≤ c ∧ c < r 1) (h2 : r (29 + 11 * c) ≠ 0) (hn : r (161 + 13 * c) = 1) : JM G yL_leaves cL_leaves 8 (some .boolean) (d + 7) (0, 0) S D [.inr (.inr (some X)), .inl c, .inl 0] (jOK S X (t + 100) e (r 1) (r 2)) := by
  have ht : t ≤ 60000 := by omega
  have hB := hP.1
  have bk := hB.1
  have hI := hP.2.1.2.2.2.1
  have b1 := hI.1
  obtain ⟨c4, ln0, ln1, lf0, lf1, gt, s0, s1, s2, s3, sg, v0, v1, w0, w1, f0, f1, k0, k1, kk, a0, a1, g0, g1⟩ := hI.cB ht hc
  have hg : (0 : Int) = 0 ∨ (0 : Int) = 1 := by omega
  have sgg := sg 0 hg
  obtain ⟨x0, x1, xp⟩ := hI.next (g := 0) hc.1 hc.2 (by omega)
  have hk : 0 ≤ sNext r c 0 ∧ sNext r c 0 < r 2 := ⟨x0, x1⟩
  obtain ⟨bk0, q0, q1, q2, q3, q4, q5, q6, q7, q8, q9, q10, q11, bp, q13, q14, q15, q16, q17, q18⟩ := hI.bB ht hk
  have nx : r (162 + 13 * c + (0)) = sNext r c 0 := by
    unfold sNext
    rw [if_pos rfl, Int.add_zero]
  have hz : zLeave c 0 r = (-100000003, none, 2) := by unfold zLeave; rw [if_pos ⟨hc, hg⟩, if_pos h2]
  show JX _ _ _ _ _ _ _ _ _ _ _ [_, _, _, _, _, _, _, _] _ _
  refine x_aload_n dL_leaves_0 rfl ?_
  refine x_iload_n dL_leaves_1 rfl ?_
  refine x_iconst dL_leaves_2 ?_
  refine c_RL_15d dL_leaves_3 rfl (tc_3 hP ht hc) bk (Nat.le_of_ble_eq_true rfl) (Nat.le_of_ble_eq_true rfl) ⟨Nat.le_refl _, Nat.le_refl _⟩ ?_
  refine x_istore_n dL_leaves_6 (by decide) ?_
  show JX _ _ _ _ _ _ _ _ _ _ _ [_, _, _, _, _, _, _, _] _ _
  refine x_iload_n dL_leaves_7 rfl ?_
  refine x_if_ne (tgt := 15) dL_leaves_8 (by decide) ⟨by omega, by omega⟩ (fun hb8 => ?_) (fun h => (h (by omega)).elim)
  refine x_aload_n dL_leaves_15 rfl ?_
  refine x_iload_n dL_leaves_16 rfl ?_
  refine x_iload_n dL_leaves_17 rfl ?_
  refine x_if_ne (tgt := 25) dL_leaves_18 (by decide) ⟨by omega, by omega⟩ (fun h => absurd h (by omega)) (fun hb18 => ?_)
  refine x_iconst dL_leaves_21 ?_
  refine x_goto (tgt := 28) dL_leaves_22 (by decide) ?_
  refine c_RL_38d dL_leaves_28 rfl (tl_y hP ht hc ⟨by omega, by omega⟩ ⟨by omega, by omega⟩) bk (Nat.le_of_ble_eq_true rfl) (Nat.le_of_ble_eq_true rfl) ⟨Nat.le_refl _, Nat.le_refl _⟩ ?_
  rw [nx]
  refine x_istore dL_leaves_31 (by decide) ?_
  show JX _ _ _ _ _ _ _ _ _ _ _ [_, _, _, _, _, _, _, _] _ _
  refine x_iload_n dL_leaves_33 rfl ?_
  refine x_iconst dL_leaves_34 ?_
  refine x_ic_ge (tgt := 43) dL_leaves_35 (by decide) ⟨by omega, by omega⟩ ⟨by omega, by omega⟩ (fun h => absurd h (by omega)) (fun hb35 => ?_)
  refine x_ldc (e := -100000005) dL_leaves_38 ct_RL_41 (by decide) ?_
  refine x_goto (tgt := 62) dL_leaves_40 (by decide) ?_
  refine x_istore dL_leaves_62 (by decide) ?_
  show JX _ _ _ _ _ _ _ _ _ _ _ [_, _, _, _, _, _, _, _] _ _
  refine x_aload_n dL_leaves_64 rfl ?_
  refine x_iload_n dL_leaves_65 rfl ?_
  refine x_bipush dL_leaves_66 (by decide) ?_
  refine c_RL_15d dL_leaves_68 rfl (tc_8 hP ht hc) bk (Nat.le_of_ble_eq_true rfl) (Nat.le_of_ble_eq_true rfl) ⟨Nat.le_refl _, Nat.le_refl _⟩ ?_
  refine x_iload_n dL_leaves_71 rfl ?_
  refine x_ic_eq (tgt := 79) dL_leaves_72 (by decide) ⟨by omega, by omega⟩ ⟨by omega, by omega⟩ (fun h => absurd h (by omega)) (fun hb72 => ?_)
  refine x_iconst dL_leaves_75 ?_
  refine x_goto (tgt := 142) dL_leaves_76 (by decide) ?_
  refine x_istore dL_leaves_142 (by decide) ?_
  show JX _ _ _ _ _ _ _ _ _ _ _ [_, _, _, _, _, _, _, _] _ _
  refine x_aload_n dL_leaves_144 rfl ?_
  refine x_iload_n dL_leaves_145 rfl ?_
  refine x_iload_n dL_leaves_146 rfl ?_
  refine c_RL_69p dL_leaves_147 rfl (kX7_leave hP.1 (Or.inl rfl) hP.2.1 ht2 ⟨by omega, by omega⟩ ⟨by omega, by omega⟩) bk (Nat.le_of_ble_eq_true rfl) (Nat.le_of_ble_eq_true rfl) ⟨Nat.le_refl _, Nat.le_refl _⟩ (fun w2 D2 h2 => ?_)
  obtain ⟨rfl, hP2⟩ := hP.ref hz (by decide) h2
  refine x_istore dL_leaves_150 (by decide) ?_
  show JX _ _ _ _ _ _ _ _ _ _ _ [_, _, _, _, _, _, _, _] _ _
  refine x_iload dL_leaves_152 rfl ?_
  refine x_if_le (tgt := 191) dL_leaves_154 (by decide) ⟨by omega, by omega⟩ (fun h => absurd h (by omega)) (fun hb154 => ?_)
  refine x_iload dL_leaves_157 rfl ?_
  refine x_ldc (e := -100000003) dL_leaves_159 ct_RL_59 (by decide) ?_
  refine x_ic_ne (tgt := 189) dL_leaves_161 (by decide) ⟨by omega, by omega⟩ ⟨by omega, by omega⟩ (fun h => absurd h (by omega)) (fun hb161 => ?_)
  refine x_aload_n dL_leaves_164 rfl ?_
  refine x_bipush dL_leaves_165 (by decide) ?_
  refine c_RL_18d dL_leaves_167 rfl (tn_7 hP2 ht2) bk (Nat.le_of_ble_eq_true rfl) (Nat.le_of_ble_eq_true rfl) ⟨Nat.le_refl _, Nat.le_refl _⟩ ?_
  refine x_iload dL_leaves_170 rfl ?_
  refine x_ic_ne (tgt := 189) dL_leaves_172 (by decide) ⟨by omega, by omega⟩ ⟨by omega, by omega⟩ (fun h => absurd h (by omega)) (fun hb172 => ?_)
  refine x_aload_n dL_leaves_175 rfl ?_
  refine x_iload_n dL_leaves_176 rfl ?_
  refine x_iconst dL_leaves_177 ?_
  refine c_RL_15d dL_leaves_178 rfl (tc_3 hP2 ht2 hc) bk (Nat.le_of_ble_eq_true rfl) (Nat.le_of_ble_eq_true rfl) ⟨Nat.le_refl _, Nat.le_refl _⟩ ?_
  refine x_iload_n dL_leaves_181 rfl ?_
  refine x_ic_ne (tgt := 189) dL_leaves_182 (by decide) ⟨by omega, by omega⟩ ⟨by omega, by omega⟩ (fun h => absurd h (by omega)) (fun hb182 => ?_)
  refine x_iconst dL_leaves_185 ?_
  refine x_goto (tgt := 190) dL_leaves_186 (by decide) ?_
  exact x_ireturn dL_leaves_190 rfl (jbool (by first | exact Or.inl rfl | exact Or.inr rfl)).1 ⟨Nat.le_refl _, Nat.le_refl _⟩ ⟨rfl, _, rfl, rfl, _, _, _, _, hP2, hE, rfl, rfl⟩
theorem leaves_015 {G : JG} {S : JS} {D : JD} {d : Nat} {X t n q : Int} {hs : Int → Int → Int} {r : Int → Int} {e : Int} {c : Int} (hP : pSt S D X t n hs r q) (hE : pIn e r) (t0 : 0 ≤ t) (ht2 : t + 100 ≤ 60000) (hc : 0 ≤ c ∧ c < r 1) (h2 : ¬ r (29 + 11 * c) ≠ 0) (h4 : ¬ r (161 + 13 * c) = 0) (h5 : gAgr r (sNext r c 0)) (hn : r (161 + 13 * c) = 1) : JM G yL_leaves cL_leaves 8 (some .boolean) (d + 7) (0, 0) S D [.inr (.inr (some X)), .inl c, .inl 0] (jOK S X (t + 100) e (r 1) (r 2)) := by
  have ht : t ≤ 60000 := by omega
  have hB := hP.1
  have bk := hB.1
  have hI := hP.2.1.2.2.2.1
  have b1 := hI.1
  obtain ⟨c4, ln0, ln1, lf0, lf1, gt, s0, s1, s2, s3, sg, v0, v1, w0, w1, f0, f1, k0, k1, kk, a0, a1, g0, g1⟩ := hI.cB ht hc
  have hg : (0 : Int) = 0 ∨ (0 : Int) = 1 := by omega
  have sgg := sg 0 hg
  obtain ⟨x0, x1, xp⟩ := hI.next (g := 0) hc.1 hc.2 (by omega)
  have hk : 0 ≤ sNext r c 0 ∧ sNext r c 0 < r 2 := ⟨x0, x1⟩
  obtain ⟨bk0, q0, q1, q2, q3, q4, q5, q6, q7, q8, q9, q10, q11, bp, q13, q14, q15, q16, q17, q18⟩ := hI.bB ht hk
  have nx : r (162 + 13 * c + (0)) = sNext r c 0 := by
    unfold sNext
    rw [if_pos rfl, Int.add_zero]
  have ta := tA_y h5
  have hz : zLeave c 0 r = (-100000003, none, 5) := by unfold zLeave; rw [if_pos ⟨hc, hg⟩, if_neg h2, if_neg h4, if_pos h5]
  show JX _ _ _ _ _ _ _ _ _ _ _ [_, _, _, _, _, _, _, _] _ _
  refine x_aload_n dL_leaves_0 rfl ?_
  refine x_iload_n dL_leaves_1 rfl ?_
  refine x_iconst dL_leaves_2 ?_
  refine c_RL_15d dL_leaves_3 rfl (tc_3 hP ht hc) bk (Nat.le_of_ble_eq_true rfl) (Nat.le_of_ble_eq_true rfl) ⟨Nat.le_refl _, Nat.le_refl _⟩ ?_
  refine x_istore_n dL_leaves_6 (by decide) ?_
  show JX _ _ _ _ _ _ _ _ _ _ _ [_, _, _, _, _, _, _, _] _ _
  refine x_iload_n dL_leaves_7 rfl ?_
  refine x_if_ne (tgt := 15) dL_leaves_8 (by decide) ⟨by omega, by omega⟩ (fun hb8 => ?_) (fun h => (h (by omega)).elim)
  refine x_aload_n dL_leaves_15 rfl ?_
  refine x_iload_n dL_leaves_16 rfl ?_
  refine x_iload_n dL_leaves_17 rfl ?_
  refine x_if_ne (tgt := 25) dL_leaves_18 (by decide) ⟨by omega, by omega⟩ (fun h => absurd h (by omega)) (fun hb18 => ?_)
  refine x_iconst dL_leaves_21 ?_
  refine x_goto (tgt := 28) dL_leaves_22 (by decide) ?_
  refine c_RL_38d dL_leaves_28 rfl (tl_y hP ht hc ⟨by omega, by omega⟩ ⟨by omega, by omega⟩) bk (Nat.le_of_ble_eq_true rfl) (Nat.le_of_ble_eq_true rfl) ⟨Nat.le_refl _, Nat.le_refl _⟩ ?_
  rw [nx]
  refine x_istore dL_leaves_31 (by decide) ?_
  show JX _ _ _ _ _ _ _ _ _ _ _ [_, _, _, _, _, _, _, _] _ _
  refine x_iload_n dL_leaves_33 rfl ?_
  refine x_iconst dL_leaves_34 ?_
  refine x_ic_ge (tgt := 43) dL_leaves_35 (by decide) ⟨by omega, by omega⟩ ⟨by omega, by omega⟩ (fun h => absurd h (by omega)) (fun hb35 => ?_)
  refine x_ldc (e := -100000005) dL_leaves_38 ct_RL_41 (by decide) ?_
  refine x_goto (tgt := 62) dL_leaves_40 (by decide) ?_
  refine x_istore dL_leaves_62 (by decide) ?_
  show JX _ _ _ _ _ _ _ _ _ _ _ [_, _, _, _, _, _, _, _] _ _
  refine x_aload_n dL_leaves_64 rfl ?_
  refine x_iload_n dL_leaves_65 rfl ?_
  refine x_bipush dL_leaves_66 (by decide) ?_
  refine c_RL_15d dL_leaves_68 rfl (tc_8 hP ht hc) bk (Nat.le_of_ble_eq_true rfl) (Nat.le_of_ble_eq_true rfl) ⟨Nat.le_refl _, Nat.le_refl _⟩ ?_
  refine x_iload_n dL_leaves_71 rfl ?_
  refine x_ic_eq (tgt := 79) dL_leaves_72 (by decide) ⟨by omega, by omega⟩ ⟨by omega, by omega⟩ (fun hb72 => ?_) (fun h => (h (by omega)).elim)
  refine x_iload_n dL_leaves_79 rfl ?_
  refine x_if_ne (tgt := 87) dL_leaves_80 (by decide) ⟨by omega, by omega⟩ (fun hb80 => ?_) (fun h => (h (by omega)).elim)
  refine x_aload_n dL_leaves_87 rfl ?_
  refine x_iload dL_leaves_88 rfl ?_
  refine x_bipush dL_leaves_90 (by decide) ?_
  refine c_RL_22d dL_leaves_92 rfl (tb_6 hP ht hk) bk (Nat.le_of_ble_eq_true rfl) (Nat.le_of_ble_eq_true rfl) ⟨Nat.le_refl _, Nat.le_refl _⟩ ?_
  rw [ta]
  refine x_iconst dL_leaves_95 ?_
  refine x_ic_ne (tgt := 103) dL_leaves_96 (by decide) ⟨by omega, by omega⟩ ⟨by omega, by omega⟩ (fun h => absurd h (by omega)) (fun hb96 => ?_)
  refine x_iconst dL_leaves_99 ?_
  refine x_goto (tgt := 142) dL_leaves_100 (by decide) ?_
  refine x_istore dL_leaves_142 (by decide) ?_
  show JX _ _ _ _ _ _ _ _ _ _ _ [_, _, _, _, _, _, _, _] _ _
  refine x_aload_n dL_leaves_144 rfl ?_
  refine x_iload_n dL_leaves_145 rfl ?_
  refine x_iload_n dL_leaves_146 rfl ?_
  refine c_RL_69p dL_leaves_147 rfl (kX7_leave hP.1 (Or.inl rfl) hP.2.1 ht2 ⟨by omega, by omega⟩ ⟨by omega, by omega⟩) bk (Nat.le_of_ble_eq_true rfl) (Nat.le_of_ble_eq_true rfl) ⟨Nat.le_refl _, Nat.le_refl _⟩ (fun w2 D2 h2 => ?_)
  obtain ⟨rfl, hP2⟩ := hP.ref hz (by decide) h2
  refine x_istore dL_leaves_150 (by decide) ?_
  show JX _ _ _ _ _ _ _ _ _ _ _ [_, _, _, _, _, _, _, _] _ _
  refine x_iload dL_leaves_152 rfl ?_
  refine x_if_le (tgt := 191) dL_leaves_154 (by decide) ⟨by omega, by omega⟩ (fun h => absurd h (by omega)) (fun hb154 => ?_)
  refine x_iload dL_leaves_157 rfl ?_
  refine x_ldc (e := -100000003) dL_leaves_159 ct_RL_59 (by decide) ?_
  refine x_ic_ne (tgt := 189) dL_leaves_161 (by decide) ⟨by omega, by omega⟩ ⟨by omega, by omega⟩ (fun h => absurd h (by omega)) (fun hb161 => ?_)
  refine x_aload_n dL_leaves_164 rfl ?_
  refine x_bipush dL_leaves_165 (by decide) ?_
  refine c_RL_18d dL_leaves_167 rfl (tn_7 hP2 ht2) bk (Nat.le_of_ble_eq_true rfl) (Nat.le_of_ble_eq_true rfl) ⟨Nat.le_refl _, Nat.le_refl _⟩ ?_
  refine x_iload dL_leaves_170 rfl ?_
  refine x_ic_ne (tgt := 189) dL_leaves_172 (by decide) ⟨by omega, by omega⟩ ⟨by omega, by omega⟩ (fun h => absurd h (by omega)) (fun hb172 => ?_)
  refine x_aload_n dL_leaves_175 rfl ?_
  refine x_iload_n dL_leaves_176 rfl ?_
  refine x_iconst dL_leaves_177 ?_
  refine c_RL_15d dL_leaves_178 rfl (tc_3 hP2 ht2 hc) bk (Nat.le_of_ble_eq_true rfl) (Nat.le_of_ble_eq_true rfl) ⟨Nat.le_refl _, Nat.le_refl _⟩ ?_
  refine x_iload_n dL_leaves_181 rfl ?_
  refine x_ic_ne (tgt := 189) dL_leaves_182 (by decide) ⟨by omega, by omega⟩ ⟨by omega, by omega⟩ (fun h => absurd h (by omega)) (fun hb182 => ?_)
  refine x_iconst dL_leaves_185 ?_
  refine x_goto (tgt := 190) dL_leaves_186 (by decide) ?_
  exact x_ireturn dL_leaves_190 rfl (jbool (by first | exact Or.inl rfl | exact Or.inr rfl)).1 ⟨Nat.le_refl _, Nat.le_refl _⟩ ⟨rfl, _, rfl, rfl, _, _, _, _, hP2, hE, rfl, rfl⟩
theorem leaves_017 {G : JG} {S : JS} {D : JD} {d : Nat} {X t n q : Int} {hs : Int → Int → Int} {r : Int → Int} {e : Int} {c : Int} (hP : pSt S D X t n hs r q) (hE : pIn e r) (t0 : 0 ≤ t) (ht2 : t + 100 ≤ 60000) (hc : 0 ≤ c ∧ c < r 1) (h2 : ¬ r (29 + 11 * c) ≠ 0) (h4 : ¬ r (161 + 13 * c) = 0) (h5 : ¬ gAgr r (sNext r c 0)) (h7 : gDeep r (sNext r c 0) c 0) (hn : r (161 + 13 * c) = 1) : JM G yL_leaves cL_leaves 8 (some .boolean) (d + 7) (0, 0) S D [.inr (.inr (some X)), .inl c, .inl 0] (jOK S X (t + 100) e (r 1) (r 2)) := by
  have ht : t ≤ 60000 := by omega
  have hB := hP.1
  have bk := hB.1
  have hI := hP.2.1.2.2.2.1
  have b1 := hI.1
  obtain ⟨c4, ln0, ln1, lf0, lf1, gt, s0, s1, s2, s3, sg, v0, v1, w0, w1, f0, f1, k0, k1, kk, a0, a1, g0, g1⟩ := hI.cB ht hc
  have hg : (0 : Int) = 0 ∨ (0 : Int) = 1 := by omega
  have sgg := sg 0 hg
  obtain ⟨x0, x1, xp⟩ := hI.next (g := 0) hc.1 hc.2 (by omega)
  have hk : 0 ≤ sNext r c 0 ∧ sNext r c 0 < r 2 := ⟨x0, x1⟩
  obtain ⟨bk0, q0, q1, q2, q3, q4, q5, q6, q7, q8, q9, q10, q11, bp, q13, q14, q15, q16, q17, q18⟩ := hI.bB ht hk
  have nx : r (162 + 13 * c + (0)) = sNext r c 0 := by
    unfold sNext
    rw [if_pos rfl, Int.add_zero]
  have ta := tA_n h5
  have h7b : sLv r (100 + c) - sHg r c 0 - r 3 < sDr r (sNext r c 0) := h7
  have hz : zLeave c 0 r = (-100000003, none, 7) := by unfold zLeave; rw [if_pos ⟨hc, hg⟩, if_neg h2, if_neg h4, if_neg h5, if_pos h7]
  show JX _ _ _ _ _ _ _ _ _ _ _ [_, _, _, _, _, _, _, _] _ _
  refine x_aload_n dL_leaves_0 rfl ?_
  refine x_iload_n dL_leaves_1 rfl ?_
  refine x_iconst dL_leaves_2 ?_
  refine c_RL_15d dL_leaves_3 rfl (tc_3 hP ht hc) bk (Nat.le_of_ble_eq_true rfl) (Nat.le_of_ble_eq_true rfl) ⟨Nat.le_refl _, Nat.le_refl _⟩ ?_
  refine x_istore_n dL_leaves_6 (by decide) ?_
  show JX _ _ _ _ _ _ _ _ _ _ _ [_, _, _, _, _, _, _, _] _ _
  refine x_iload_n dL_leaves_7 rfl ?_
  refine x_if_ne (tgt := 15) dL_leaves_8 (by decide) ⟨by omega, by omega⟩ (fun hb8 => ?_) (fun h => (h (by omega)).elim)
  refine x_aload_n dL_leaves_15 rfl ?_
  refine x_iload_n dL_leaves_16 rfl ?_
  refine x_iload_n dL_leaves_17 rfl ?_
  refine x_if_ne (tgt := 25) dL_leaves_18 (by decide) ⟨by omega, by omega⟩ (fun h => absurd h (by omega)) (fun hb18 => ?_)
  refine x_iconst dL_leaves_21 ?_
  refine x_goto (tgt := 28) dL_leaves_22 (by decide) ?_
  refine c_RL_38d dL_leaves_28 rfl (tl_y hP ht hc ⟨by omega, by omega⟩ ⟨by omega, by omega⟩) bk (Nat.le_of_ble_eq_true rfl) (Nat.le_of_ble_eq_true rfl) ⟨Nat.le_refl _, Nat.le_refl _⟩ ?_
  rw [nx]
  refine x_istore dL_leaves_31 (by decide) ?_
  show JX _ _ _ _ _ _ _ _ _ _ _ [_, _, _, _, _, _, _, _] _ _
  refine x_iload_n dL_leaves_33 rfl ?_
  refine x_iconst dL_leaves_34 ?_
  refine x_ic_ge (tgt := 43) dL_leaves_35 (by decide) ⟨by omega, by omega⟩ ⟨by omega, by omega⟩ (fun h => absurd h (by omega)) (fun hb35 => ?_)
  refine x_ldc (e := -100000005) dL_leaves_38 ct_RL_41 (by decide) ?_
  refine x_goto (tgt := 62) dL_leaves_40 (by decide) ?_
  refine x_istore dL_leaves_62 (by decide) ?_
  show JX _ _ _ _ _ _ _ _ _ _ _ [_, _, _, _, _, _, _, _] _ _
  refine x_aload_n dL_leaves_64 rfl ?_
  refine x_iload_n dL_leaves_65 rfl ?_
  refine x_bipush dL_leaves_66 (by decide) ?_
  refine c_RL_15d dL_leaves_68 rfl (tc_8 hP ht hc) bk (Nat.le_of_ble_eq_true rfl) (Nat.le_of_ble_eq_true rfl) ⟨Nat.le_refl _, Nat.le_refl _⟩ ?_
  refine x_iload_n dL_leaves_71 rfl ?_
  refine x_ic_eq (tgt := 79) dL_leaves_72 (by decide) ⟨by omega, by omega⟩ ⟨by omega, by omega⟩ (fun hb72 => ?_) (fun h => (h (by omega)).elim)
  refine x_iload_n dL_leaves_79 rfl ?_
  refine x_if_ne (tgt := 87) dL_leaves_80 (by decide) ⟨by omega, by omega⟩ (fun hb80 => ?_) (fun h => (h (by omega)).elim)
  refine x_aload_n dL_leaves_87 rfl ?_
  refine x_iload dL_leaves_88 rfl ?_
  refine x_bipush dL_leaves_90 (by decide) ?_
  refine c_RL_22d dL_leaves_92 rfl (tb_6 hP ht hk) bk (Nat.le_of_ble_eq_true rfl) (Nat.le_of_ble_eq_true rfl) ⟨Nat.le_refl _, Nat.le_refl _⟩ ?_
  rw [ta]
  refine x_iconst dL_leaves_95 ?_
  refine x_ic_ne (tgt := 103) dL_leaves_96 (by decide) ⟨by omega, by omega⟩ ⟨by omega, by omega⟩ (fun hb96 => ?_) (fun h => (h (by omega)).elim)
  refine x_aload_n dL_leaves_103 rfl ?_
  refine x_iload_n dL_leaves_104 rfl ?_
  refine x_iconst dL_leaves_105 ?_
  refine c_RL_15d dL_leaves_106 rfl (tc_0 hP ht hc) bk (Nat.le_of_ble_eq_true rfl) (Nat.le_of_ble_eq_true rfl) ⟨Nat.le_refl _, Nat.le_refl _⟩ ?_
  refine x_aload_n dL_leaves_109 rfl ?_
  refine x_iload_n dL_leaves_110 rfl ?_
  refine x_bipush dL_leaves_111 (by decide) ?_
  refine x_iload_n dL_leaves_113 rfl ?_
  refine x_iadd dL_leaves_114 ?_
  refine c_RL_15d dL_leaves_115 rfl (tc_s (g := 0) hP ht hc hg) bk (Nat.le_of_ble_eq_true rfl) (Nat.le_of_ble_eq_true rfl) ⟨Nat.le_refl _, Nat.le_refl _⟩ ?_
  refine x_isub dL_leaves_118 ?_
  refine x_aload_n dL_leaves_119 rfl ?_
  refine x_iload dL_leaves_120 rfl ?_
  refine x_iconst dL_leaves_122 ?_
  refine c_RL_22d dL_leaves_123 rfl (tb_2 hP ht hk) bk (Nat.le_of_ble_eq_true rfl) (Nat.le_of_ble_eq_true rfl) ⟨Nat.le_refl _, Nat.le_refl _⟩ ?_
  refine x_aload_n dL_leaves_126 rfl ?_
  refine x_bipush dL_leaves_127 (by decide) ?_
  refine c_RL_18d dL_leaves_129 rfl (tn_6 hP ht) bk (Nat.le_of_ble_eq_true rfl) (Nat.le_of_ble_eq_true rfl) ⟨Nat.le_refl _, Nat.le_refl _⟩ ?_
  refine x_iadd dL_leaves_132 ?_
  refine x_ic_ge (tgt := 141) dL_leaves_133 (by decide) ⟨by omega, by omega⟩ ⟨by omega, by omega⟩ (fun h => absurd h (by omega)) (fun hb133 => ?_)
  refine x_bipush dL_leaves_136 (by decide) ?_
  refine x_goto (tgt := 142) dL_leaves_138 (by decide) ?_
  refine x_istore dL_leaves_142 (by decide) ?_
  show JX _ _ _ _ _ _ _ _ _ _ _ [_, _, _, _, _, _, _, _] _ _
  refine x_aload_n dL_leaves_144 rfl ?_
  refine x_iload_n dL_leaves_145 rfl ?_
  refine x_iload_n dL_leaves_146 rfl ?_
  refine c_RL_69p dL_leaves_147 rfl (kX7_leave hP.1 (Or.inl rfl) hP.2.1 ht2 ⟨by omega, by omega⟩ ⟨by omega, by omega⟩) bk (Nat.le_of_ble_eq_true rfl) (Nat.le_of_ble_eq_true rfl) ⟨Nat.le_refl _, Nat.le_refl _⟩ (fun w2 D2 h2 => ?_)
  obtain ⟨rfl, hP2⟩ := hP.ref hz (by decide) h2
  refine x_istore dL_leaves_150 (by decide) ?_
  show JX _ _ _ _ _ _ _ _ _ _ _ [_, _, _, _, _, _, _, _] _ _
  refine x_iload dL_leaves_152 rfl ?_
  refine x_if_le (tgt := 191) dL_leaves_154 (by decide) ⟨by omega, by omega⟩ (fun h => absurd h (by omega)) (fun hb154 => ?_)
  refine x_iload dL_leaves_157 rfl ?_
  refine x_ldc (e := -100000003) dL_leaves_159 ct_RL_59 (by decide) ?_
  refine x_ic_ne (tgt := 189) dL_leaves_161 (by decide) ⟨by omega, by omega⟩ ⟨by omega, by omega⟩ (fun h => absurd h (by omega)) (fun hb161 => ?_)
  refine x_aload_n dL_leaves_164 rfl ?_
  refine x_bipush dL_leaves_165 (by decide) ?_
  refine c_RL_18d dL_leaves_167 rfl (tn_7 hP2 ht2) bk (Nat.le_of_ble_eq_true rfl) (Nat.le_of_ble_eq_true rfl) ⟨Nat.le_refl _, Nat.le_refl _⟩ ?_
  refine x_iload dL_leaves_170 rfl ?_
  refine x_ic_ne (tgt := 189) dL_leaves_172 (by decide) ⟨by omega, by omega⟩ ⟨by omega, by omega⟩ (fun h => absurd h (by omega)) (fun hb172 => ?_)
  refine x_aload_n dL_leaves_175 rfl ?_
  refine x_iload_n dL_leaves_176 rfl ?_
  refine x_iconst dL_leaves_177 ?_
  refine c_RL_15d dL_leaves_178 rfl (tc_3 hP2 ht2 hc) bk (Nat.le_of_ble_eq_true rfl) (Nat.le_of_ble_eq_true rfl) ⟨Nat.le_refl _, Nat.le_refl _⟩ ?_
  refine x_iload_n dL_leaves_181 rfl ?_
  refine x_ic_ne (tgt := 189) dL_leaves_182 (by decide) ⟨by omega, by omega⟩ ⟨by omega, by omega⟩ (fun h => absurd h (by omega)) (fun hb182 => ?_)
  refine x_iconst dL_leaves_185 ?_
  refine x_goto (tgt := 190) dL_leaves_186 (by decide) ?_
  exact x_ireturn dL_leaves_190 rfl (jbool (by first | exact Or.inl rfl | exact Or.inr rfl)).1 ⟨Nat.le_refl _, Nat.le_refl _⟩ ⟨rfl, _, rfl, rfl, _, _, _, _, hP2, hE, rfl, rfl⟩
theorem leaves_010 {G : JG} {S : JS} {D : JD} {d : Nat} {X t n q : Int} {hs : Int → Int → Int} {r : Int → Int} {e : Int} {c : Int} (hP : pSt S D X t n hs r q) (hE : pIn e r) (t0 : 0 ≤ t) (ht2 : t + 100 ≤ 60000) (hc : 0 ≤ c ∧ c < r 1) (h2 : ¬ r (29 + 11 * c) ≠ 0) (h4 : ¬ r (161 + 13 * c) = 0) (h5 : ¬ gAgr r (sNext r c 0)) (h7 : ¬ gDeep r (sNext r c 0) c 0) (hn : r (161 + 13 * c) = 1) : JM G yL_leaves cL_leaves 8 (some .boolean) (d + 7) (0, 0) S D [.inr (.inr (some X)), .inl c, .inl 0] (jOK S X (t + 100) e (r 1) (r 2)) := by
  have ht : t ≤ 60000 := by omega
  have hB := hP.1
  have bk := hB.1
  have hI := hP.2.1.2.2.2.1
  have b1 := hI.1
  obtain ⟨c4, ln0, ln1, lf0, lf1, gt, s0, s1, s2, s3, sg, v0, v1, w0, w1, f0, f1, k0, k1, kk, a0, a1, g0, g1⟩ := hI.cB ht hc
  have hg : (0 : Int) = 0 ∨ (0 : Int) = 1 := by omega
  have sgg := sg 0 hg
  obtain ⟨x0, x1, xp⟩ := hI.next (g := 0) hc.1 hc.2 (by omega)
  have hk : 0 ≤ sNext r c 0 ∧ sNext r c 0 < r 2 := ⟨x0, x1⟩
  obtain ⟨bk0, q0, q1, q2, q3, q4, q5, q6, q7, q8, q9, q10, q11, bp, q13, q14, q15, q16, q17, q18⟩ := hI.bB ht hk
  have nx : r (162 + 13 * c + (0)) = sNext r c 0 := by
    unfold sNext
    rw [if_pos rfl, Int.add_zero]
  have ta := tA_n h5
  have h7b : ¬ sLv r (100 + c) - sHg r c 0 - r 3 < sDr r (sNext r c 0) := h7
  have hz : zLeave c 0 r = (sNext r c 0, some (rLeave (sNext r c 0) c 0 r), 0) := by unfold zLeave; rw [if_pos ⟨hc, hg⟩, if_neg h2, if_neg h4, if_neg h5, if_neg h7]
  obtain ⟨hI3, of, k1a, k2a, m71, m161, m0⟩ := leave_nums hI hc hg h4
  have hE3 := (hE.off hI of).all hI3
  have hc2 : 0 ≤ c ∧ c < sAll (rLeave (sNext r c 0) c 0 r) 1 := ⟨hc.1, by omega⟩
  have hk2 : 0 ≤ sNext r c 0 ∧ sNext r c 0 < sAll (rLeave (sNext r c 0) c 0 r) 2 := ⟨x0, by omega⟩
  show JX _ _ _ _ _ _ _ _ _ _ _ [_, _, _, _, _, _, _, _] _ _
  refine x_aload_n dL_leaves_0 rfl ?_
  refine x_iload_n dL_leaves_1 rfl ?_
  refine x_iconst dL_leaves_2 ?_
  refine c_RL_15d dL_leaves_3 rfl (tc_3 hP ht hc) bk (Nat.le_of_ble_eq_true rfl) (Nat.le_of_ble_eq_true rfl) ⟨Nat.le_refl _, Nat.le_refl _⟩ ?_
  refine x_istore_n dL_leaves_6 (by decide) ?_
  show JX _ _ _ _ _ _ _ _ _ _ _ [_, _, _, _, _, _, _, _] _ _
  refine x_iload_n dL_leaves_7 rfl ?_
  refine x_if_ne (tgt := 15) dL_leaves_8 (by decide) ⟨by omega, by omega⟩ (fun hb8 => ?_) (fun h => (h (by omega)).elim)
  refine x_aload_n dL_leaves_15 rfl ?_
  refine x_iload_n dL_leaves_16 rfl ?_
  refine x_iload_n dL_leaves_17 rfl ?_
  refine x_if_ne (tgt := 25) dL_leaves_18 (by decide) ⟨by omega, by omega⟩ (fun h => absurd h (by omega)) (fun hb18 => ?_)
  refine x_iconst dL_leaves_21 ?_
  refine x_goto (tgt := 28) dL_leaves_22 (by decide) ?_
  refine c_RL_38d dL_leaves_28 rfl (tl_y hP ht hc ⟨by omega, by omega⟩ ⟨by omega, by omega⟩) bk (Nat.le_of_ble_eq_true rfl) (Nat.le_of_ble_eq_true rfl) ⟨Nat.le_refl _, Nat.le_refl _⟩ ?_
  rw [nx]
  refine x_istore dL_leaves_31 (by decide) ?_
  show JX _ _ _ _ _ _ _ _ _ _ _ [_, _, _, _, _, _, _, _] _ _
  refine x_iload_n dL_leaves_33 rfl ?_
  refine x_iconst dL_leaves_34 ?_
  refine x_ic_ge (tgt := 43) dL_leaves_35 (by decide) ⟨by omega, by omega⟩ ⟨by omega, by omega⟩ (fun h => absurd h (by omega)) (fun hb35 => ?_)
  refine x_ldc (e := -100000005) dL_leaves_38 ct_RL_41 (by decide) ?_
  refine x_goto (tgt := 62) dL_leaves_40 (by decide) ?_
  refine x_istore dL_leaves_62 (by decide) ?_
  show JX _ _ _ _ _ _ _ _ _ _ _ [_, _, _, _, _, _, _, _] _ _
  refine x_aload_n dL_leaves_64 rfl ?_
  refine x_iload_n dL_leaves_65 rfl ?_
  refine x_bipush dL_leaves_66 (by decide) ?_
  refine c_RL_15d dL_leaves_68 rfl (tc_8 hP ht hc) bk (Nat.le_of_ble_eq_true rfl) (Nat.le_of_ble_eq_true rfl) ⟨Nat.le_refl _, Nat.le_refl _⟩ ?_
  refine x_iload_n dL_leaves_71 rfl ?_
  refine x_ic_eq (tgt := 79) dL_leaves_72 (by decide) ⟨by omega, by omega⟩ ⟨by omega, by omega⟩ (fun hb72 => ?_) (fun h => (h (by omega)).elim)
  refine x_iload_n dL_leaves_79 rfl ?_
  refine x_if_ne (tgt := 87) dL_leaves_80 (by decide) ⟨by omega, by omega⟩ (fun hb80 => ?_) (fun h => (h (by omega)).elim)
  refine x_aload_n dL_leaves_87 rfl ?_
  refine x_iload dL_leaves_88 rfl ?_
  refine x_bipush dL_leaves_90 (by decide) ?_
  refine c_RL_22d dL_leaves_92 rfl (tb_6 hP ht hk) bk (Nat.le_of_ble_eq_true rfl) (Nat.le_of_ble_eq_true rfl) ⟨Nat.le_refl _, Nat.le_refl _⟩ ?_
  rw [ta]
  refine x_iconst dL_leaves_95 ?_
  refine x_ic_ne (tgt := 103) dL_leaves_96 (by decide) ⟨by omega, by omega⟩ ⟨by omega, by omega⟩ (fun hb96 => ?_) (fun h => (h (by omega)).elim)
  refine x_aload_n dL_leaves_103 rfl ?_
  refine x_iload_n dL_leaves_104 rfl ?_
  refine x_iconst dL_leaves_105 ?_
  refine c_RL_15d dL_leaves_106 rfl (tc_0 hP ht hc) bk (Nat.le_of_ble_eq_true rfl) (Nat.le_of_ble_eq_true rfl) ⟨Nat.le_refl _, Nat.le_refl _⟩ ?_
  refine x_aload_n dL_leaves_109 rfl ?_
  refine x_iload_n dL_leaves_110 rfl ?_
  refine x_bipush dL_leaves_111 (by decide) ?_
  refine x_iload_n dL_leaves_113 rfl ?_
  refine x_iadd dL_leaves_114 ?_
  refine c_RL_15d dL_leaves_115 rfl (tc_s (g := 0) hP ht hc hg) bk (Nat.le_of_ble_eq_true rfl) (Nat.le_of_ble_eq_true rfl) ⟨Nat.le_refl _, Nat.le_refl _⟩ ?_
  refine x_isub dL_leaves_118 ?_
  refine x_aload_n dL_leaves_119 rfl ?_
  refine x_iload dL_leaves_120 rfl ?_
  refine x_iconst dL_leaves_122 ?_
  refine c_RL_22d dL_leaves_123 rfl (tb_2 hP ht hk) bk (Nat.le_of_ble_eq_true rfl) (Nat.le_of_ble_eq_true rfl) ⟨Nat.le_refl _, Nat.le_refl _⟩ ?_
  refine x_aload_n dL_leaves_126 rfl ?_
  refine x_bipush dL_leaves_127 (by decide) ?_
  refine c_RL_18d dL_leaves_129 rfl (tn_6 hP ht) bk (Nat.le_of_ble_eq_true rfl) (Nat.le_of_ble_eq_true rfl) ⟨Nat.le_refl _, Nat.le_refl _⟩ ?_
  refine x_iadd dL_leaves_132 ?_
  refine x_ic_ge (tgt := 141) dL_leaves_133 (by decide) ⟨by omega, by omega⟩ ⟨by omega, by omega⟩ (fun hb133 => ?_) (fun h => (h (by omega)).elim)
  refine x_iconst dL_leaves_141 ?_
  refine x_istore dL_leaves_142 (by decide) ?_
  show JX _ _ _ _ _ _ _ _ _ _ _ [_, _, _, _, _, _, _, _] _ _
  refine x_aload_n dL_leaves_144 rfl ?_
  refine x_iload_n dL_leaves_145 rfl ?_
  refine x_iload_n dL_leaves_146 rfl ?_
  refine c_RL_69p dL_leaves_147 rfl (kX7_leave hP.1 (Or.inl rfl) hP.2.1 ht2 ⟨by omega, by omega⟩ ⟨by omega, by omega⟩) bk (Nat.le_of_ble_eq_true rfl) (Nat.le_of_ble_eq_true rfl) ⟨Nat.le_refl _, Nat.le_refl _⟩ (fun w2 D2 h2 => ?_)
  obtain ⟨rfl, hP2⟩ := hP.some hz h2
  have hI2 := hP2.2.1.2.2.2.1
  have cB2 := hI2.line hc2.1 hc2.2
  refine x_istore dL_leaves_150 (by decide) ?_
  show JX _ _ _ _ _ _ _ _ _ _ _ [_, _, _, _, _, _, _, _] _ _
  refine x_iload dL_leaves_152 rfl ?_
  refine x_if_le (tgt := 191) dL_leaves_154 (by decide) ⟨by omega, by omega⟩ (fun hb154 => ?_) (fun h => (h (by omega)).elim)
  refine x_iload dL_leaves_191 rfl ?_
  refine x_iload dL_leaves_193 rfl ?_
  refine x_ic_ne (tgt := 239) dL_leaves_195 (by decide) ⟨by omega, by omega⟩ ⟨by omega, by omega⟩ (fun h => absurd h (by omega)) (fun hb195 => ?_)
  refine x_aload_n dL_leaves_198 rfl ?_
  refine x_iload dL_leaves_199 rfl ?_
  refine x_bipush dL_leaves_201 (by decide) ?_
  refine c_RL_22d dL_leaves_203 rfl (tb_7 hP2 ht2 hk2) bk (Nat.le_of_ble_eq_true rfl) (Nat.le_of_ble_eq_true rfl) ⟨Nat.le_refl _, Nat.le_refl _⟩ ?_
  rw [m71]
  refine x_iload_n dL_leaves_206 rfl ?_
  refine x_iload_n dL_leaves_207 rfl ?_
  refine x_iadd dL_leaves_208 ?_
  refine x_ic_ne (tgt := 239) dL_leaves_209 (by decide) ⟨by omega, by omega⟩ ⟨by omega, by omega⟩ (fun h => absurd h (by omega)) (fun hb209 => ?_)
  refine x_aload_n dL_leaves_212 rfl ?_
  refine x_iload_n dL_leaves_213 rfl ?_
  refine x_iconst dL_leaves_214 ?_
  refine c_RL_15d dL_leaves_215 rfl (tc_3 hP2 ht2 hc2) bk (Nat.le_of_ble_eq_true rfl) (Nat.le_of_ble_eq_true rfl) ⟨Nat.le_refl _, Nat.le_refl _⟩ ?_
  refine x_iload_n dL_leaves_218 rfl ?_
  refine x_iconst dL_leaves_219 ?_
  refine x_isub dL_leaves_220 ?_
  refine x_ic_ne (tgt := 239) dL_leaves_221 (by decide) ⟨by omega, by omega⟩ ⟨by omega, by omega⟩ (fun h => absurd h (by omega)) (fun hb221 => ?_)
  refine x_aload_n dL_leaves_224 rfl ?_
  refine x_iload_n dL_leaves_225 rfl ?_
  refine x_iconst dL_leaves_226 ?_
  refine c_RL_38d dL_leaves_227 rfl (tl_n hP2 ht2 hc2 ⟨by omega, by omega⟩ ⟨by omega, by omega⟩) bk (Nat.le_of_ble_eq_true rfl) (Nat.le_of_ble_eq_true rfl) ⟨Nat.le_refl _, Nat.le_refl _⟩ ?_
  refine x_iload dL_leaves_230 rfl ?_
  refine x_ic_ne (tgt := 239) dL_leaves_232 (by decide) ⟨by omega, by omega⟩ ⟨by omega, by omega⟩ (fun h => absurd h (by omega)) (fun hb232 => ?_)
  refine x_iconst dL_leaves_235 ?_
  refine x_goto (tgt := 240) dL_leaves_236 (by decide) ?_
  exact x_ireturn dL_leaves_240 rfl (jbool (by first | exact Or.inl rfl | exact Or.inr rfl)).1 ⟨Nat.le_refl _, Nat.le_refl _⟩ ⟨rfl, _, rfl, rfl, _, _, _, _, hP2, hE3, k1a, k2a⟩
theorem leaves_022 {G : JG} {S : JS} {D : JD} {d : Nat} {X t n q : Int} {hs : Int → Int → Int} {r : Int → Int} {e : Int} {c : Int} (hP : pSt S D X t n hs r q) (hE : pIn e r) (t0 : 0 ≤ t) (ht2 : t + 100 ≤ 60000) (hc : 0 ≤ c ∧ c < r 1) (h2 : r (29 + 11 * c) ≠ 0) (hn : 2 ≤ r (161 + 13 * c)) : JM G yL_leaves cL_leaves 8 (some .boolean) (d + 7) (0, 0) S D [.inr (.inr (some X)), .inl c, .inl 0] (jOK S X (t + 100) e (r 1) (r 2)) := by
  have ht : t ≤ 60000 := by omega
  have hB := hP.1
  have bk := hB.1
  have hI := hP.2.1.2.2.2.1
  have b1 := hI.1
  obtain ⟨c4, ln0, ln1, lf0, lf1, gt, s0, s1, s2, s3, sg, v0, v1, w0, w1, f0, f1, k0, k1, kk, a0, a1, g0, g1⟩ := hI.cB ht hc
  have hg : (0 : Int) = 0 ∨ (0 : Int) = 1 := by omega
  have sgg := sg 0 hg
  obtain ⟨x0, x1, xp⟩ := hI.next (g := 0) hc.1 hc.2 (by omega)
  have hk : 0 ≤ sNext r c 0 ∧ sNext r c 0 < r 2 := ⟨x0, x1⟩
  obtain ⟨bk0, q0, q1, q2, q3, q4, q5, q6, q7, q8, q9, q10, q11, bp, q13, q14, q15, q16, q17, q18⟩ := hI.bB ht hk
  have nx : r (162 + 13 * c + (0)) = sNext r c 0 := by
    unfold sNext
    rw [if_pos rfl, Int.add_zero]
  have l2 := (hI.lines hc.1 hc.2).1 1 (by omega) (by omega)
  have hz : zLeave c 0 r = (-100000003, none, 2) := by unfold zLeave; rw [if_pos ⟨hc, hg⟩, if_pos h2]
  show JX _ _ _ _ _ _ _ _ _ _ _ [_, _, _, _, _, _, _, _] _ _
  refine x_aload_n dL_leaves_0 rfl ?_
  refine x_iload_n dL_leaves_1 rfl ?_
  refine x_iconst dL_leaves_2 ?_
  refine c_RL_15d dL_leaves_3 rfl (tc_3 hP ht hc) bk (Nat.le_of_ble_eq_true rfl) (Nat.le_of_ble_eq_true rfl) ⟨Nat.le_refl _, Nat.le_refl _⟩ ?_
  refine x_istore_n dL_leaves_6 (by decide) ?_
  show JX _ _ _ _ _ _ _ _ _ _ _ [_, _, _, _, _, _, _, _] _ _
  refine x_iload_n dL_leaves_7 rfl ?_
  refine x_if_ne (tgt := 15) dL_leaves_8 (by decide) ⟨by omega, by omega⟩ (fun hb8 => ?_) (fun h => (h (by omega)).elim)
  refine x_aload_n dL_leaves_15 rfl ?_
  refine x_iload_n dL_leaves_16 rfl ?_
  refine x_iload_n dL_leaves_17 rfl ?_
  refine x_if_ne (tgt := 25) dL_leaves_18 (by decide) ⟨by omega, by omega⟩ (fun h => absurd h (by omega)) (fun hb18 => ?_)
  refine x_iconst dL_leaves_21 ?_
  refine x_goto (tgt := 28) dL_leaves_22 (by decide) ?_
  refine c_RL_38d dL_leaves_28 rfl (tl_y hP ht hc ⟨by omega, by omega⟩ ⟨by omega, by omega⟩) bk (Nat.le_of_ble_eq_true rfl) (Nat.le_of_ble_eq_true rfl) ⟨Nat.le_refl _, Nat.le_refl _⟩ ?_
  rw [nx]
  refine x_istore dL_leaves_31 (by decide) ?_
  show JX _ _ _ _ _ _ _ _ _ _ _ [_, _, _, _, _, _, _, _] _ _
  refine x_iload_n dL_leaves_33 rfl ?_
  refine x_iconst dL_leaves_34 ?_
  refine x_ic_ge (tgt := 43) dL_leaves_35 (by decide) ⟨by omega, by omega⟩ ⟨by omega, by omega⟩ (fun hb35 => ?_) (fun h => (h (by omega)).elim)
  refine x_iload_n dL_leaves_43 rfl ?_
  refine x_if_ne (tgt := 56) dL_leaves_44 (by decide) ⟨by omega, by omega⟩ (fun h => absurd h (by omega)) (fun hb44 => ?_)
  refine x_aload_n dL_leaves_47 rfl ?_
  refine x_iload_n dL_leaves_48 rfl ?_
  refine x_iconst dL_leaves_49 ?_
  refine c_RL_38d dL_leaves_50 rfl (tl_y hP ht hc ⟨by omega, by omega⟩ ⟨by omega, by omega⟩) bk (Nat.le_of_ble_eq_true rfl) (Nat.le_of_ble_eq_true rfl) ⟨Nat.le_refl _, Nat.le_refl _⟩ ?_
  refine x_goto (tgt := 62) dL_leaves_53 (by decide) ?_
  refine x_istore dL_leaves_62 (by decide) ?_
  show JX _ _ _ _ _ _ _ _ _ _ _ [_, _, _, _, _, _, _, _] _ _
  refine x_aload_n dL_leaves_64 rfl ?_
  refine x_iload_n dL_leaves_65 rfl ?_
  refine x_bipush dL_leaves_66 (by decide) ?_
  refine c_RL_15d dL_leaves_68 rfl (tc_8 hP ht hc) bk (Nat.le_of_ble_eq_true rfl) (Nat.le_of_ble_eq_true rfl) ⟨Nat.le_refl _, Nat.le_refl _⟩ ?_
  refine x_iload_n dL_leaves_71 rfl ?_
  refine x_ic_eq (tgt := 79) dL_leaves_72 (by decide) ⟨by omega, by omega⟩ ⟨by omega, by omega⟩ (fun h => absurd h (by omega)) (fun hb72 => ?_)
  refine x_iconst dL_leaves_75 ?_
  refine x_goto (tgt := 142) dL_leaves_76 (by decide) ?_
  refine x_istore dL_leaves_142 (by decide) ?_
  show JX _ _ _ _ _ _ _ _ _ _ _ [_, _, _, _, _, _, _, _] _ _
  refine x_aload_n dL_leaves_144 rfl ?_
  refine x_iload_n dL_leaves_145 rfl ?_
  refine x_iload_n dL_leaves_146 rfl ?_
  refine c_RL_69p dL_leaves_147 rfl (kX7_leave hP.1 (Or.inl rfl) hP.2.1 ht2 ⟨by omega, by omega⟩ ⟨by omega, by omega⟩) bk (Nat.le_of_ble_eq_true rfl) (Nat.le_of_ble_eq_true rfl) ⟨Nat.le_refl _, Nat.le_refl _⟩ (fun w2 D2 h2 => ?_)
  obtain ⟨rfl, hP2⟩ := hP.ref hz (by decide) h2
  refine x_istore dL_leaves_150 (by decide) ?_
  show JX _ _ _ _ _ _ _ _ _ _ _ [_, _, _, _, _, _, _, _] _ _
  refine x_iload dL_leaves_152 rfl ?_
  refine x_if_le (tgt := 191) dL_leaves_154 (by decide) ⟨by omega, by omega⟩ (fun h => absurd h (by omega)) (fun hb154 => ?_)
  refine x_iload dL_leaves_157 rfl ?_
  refine x_ldc (e := -100000003) dL_leaves_159 ct_RL_59 (by decide) ?_
  refine x_ic_ne (tgt := 189) dL_leaves_161 (by decide) ⟨by omega, by omega⟩ ⟨by omega, by omega⟩ (fun h => absurd h (by omega)) (fun hb161 => ?_)
  refine x_aload_n dL_leaves_164 rfl ?_
  refine x_bipush dL_leaves_165 (by decide) ?_
  refine c_RL_18d dL_leaves_167 rfl (tn_7 hP2 ht2) bk (Nat.le_of_ble_eq_true rfl) (Nat.le_of_ble_eq_true rfl) ⟨Nat.le_refl _, Nat.le_refl _⟩ ?_
  refine x_iload dL_leaves_170 rfl ?_
  refine x_ic_ne (tgt := 189) dL_leaves_172 (by decide) ⟨by omega, by omega⟩ ⟨by omega, by omega⟩ (fun h => absurd h (by omega)) (fun hb172 => ?_)
  refine x_aload_n dL_leaves_175 rfl ?_
  refine x_iload_n dL_leaves_176 rfl ?_
  refine x_iconst dL_leaves_177 ?_
  refine c_RL_15d dL_leaves_178 rfl (tc_3 hP2 ht2 hc) bk (Nat.le_of_ble_eq_true rfl) (Nat.le_of_ble_eq_true rfl) ⟨Nat.le_refl _, Nat.le_refl _⟩ ?_
  refine x_iload_n dL_leaves_181 rfl ?_
  refine x_ic_ne (tgt := 189) dL_leaves_182 (by decide) ⟨by omega, by omega⟩ ⟨by omega, by omega⟩ (fun h => absurd h (by omega)) (fun hb182 => ?_)
  refine x_iconst dL_leaves_185 ?_
  refine x_goto (tgt := 190) dL_leaves_186 (by decide) ?_
  exact x_ireturn dL_leaves_190 rfl (jbool (by first | exact Or.inl rfl | exact Or.inr rfl)).1 ⟨Nat.le_refl _, Nat.le_refl _⟩ ⟨rfl, _, rfl, rfl, _, _, _, _, hP2, hE, rfl, rfl⟩
theorem leaves_025 {G : JG} {S : JS} {D : JD} {d : Nat} {X t n q : Int} {hs : Int → Int → Int} {r : Int → Int} {e : Int} {c : Int} (hP : pSt S D X t n hs r q) (hE : pIn e r) (t0 : 0 ≤ t) (ht2 : t + 100 ≤ 60000) (hc : 0 ≤ c ∧ c < r 1) (h2 : ¬ r (29 + 11 * c) ≠ 0) (h4 : ¬ r (161 + 13 * c) = 0) (h5 : gAgr r (sNext r c 0)) (hn : 2 ≤ r (161 + 13 * c)) : JM G yL_leaves cL_leaves 8 (some .boolean) (d + 7) (0, 0) S D [.inr (.inr (some X)), .inl c, .inl 0] (jOK S X (t + 100) e (r 1) (r 2)) := by
  have ht : t ≤ 60000 := by omega
  have hB := hP.1
  have bk := hB.1
  have hI := hP.2.1.2.2.2.1
  have b1 := hI.1
  obtain ⟨c4, ln0, ln1, lf0, lf1, gt, s0, s1, s2, s3, sg, v0, v1, w0, w1, f0, f1, k0, k1, kk, a0, a1, g0, g1⟩ := hI.cB ht hc
  have hg : (0 : Int) = 0 ∨ (0 : Int) = 1 := by omega
  have sgg := sg 0 hg
  obtain ⟨x0, x1, xp⟩ := hI.next (g := 0) hc.1 hc.2 (by omega)
  have hk : 0 ≤ sNext r c 0 ∧ sNext r c 0 < r 2 := ⟨x0, x1⟩
  obtain ⟨bk0, q0, q1, q2, q3, q4, q5, q6, q7, q8, q9, q10, q11, bp, q13, q14, q15, q16, q17, q18⟩ := hI.bB ht hk
  have nx : r (162 + 13 * c + (0)) = sNext r c 0 := by
    unfold sNext
    rw [if_pos rfl, Int.add_zero]
  have l2 := (hI.lines hc.1 hc.2).1 1 (by omega) (by omega)
  have ta := tA_y h5
  have hz : zLeave c 0 r = (-100000003, none, 5) := by unfold zLeave; rw [if_pos ⟨hc, hg⟩, if_neg h2, if_neg h4, if_pos h5]
  show JX _ _ _ _ _ _ _ _ _ _ _ [_, _, _, _, _, _, _, _] _ _
  refine x_aload_n dL_leaves_0 rfl ?_
  refine x_iload_n dL_leaves_1 rfl ?_
  refine x_iconst dL_leaves_2 ?_
  refine c_RL_15d dL_leaves_3 rfl (tc_3 hP ht hc) bk (Nat.le_of_ble_eq_true rfl) (Nat.le_of_ble_eq_true rfl) ⟨Nat.le_refl _, Nat.le_refl _⟩ ?_
  refine x_istore_n dL_leaves_6 (by decide) ?_
  show JX _ _ _ _ _ _ _ _ _ _ _ [_, _, _, _, _, _, _, _] _ _
  refine x_iload_n dL_leaves_7 rfl ?_
  refine x_if_ne (tgt := 15) dL_leaves_8 (by decide) ⟨by omega, by omega⟩ (fun hb8 => ?_) (fun h => (h (by omega)).elim)
  refine x_aload_n dL_leaves_15 rfl ?_
  refine x_iload_n dL_leaves_16 rfl ?_
  refine x_iload_n dL_leaves_17 rfl ?_
  refine x_if_ne (tgt := 25) dL_leaves_18 (by decide) ⟨by omega, by omega⟩ (fun h => absurd h (by omega)) (fun hb18 => ?_)
  refine x_iconst dL_leaves_21 ?_
  refine x_goto (tgt := 28) dL_leaves_22 (by decide) ?_
  refine c_RL_38d dL_leaves_28 rfl (tl_y hP ht hc ⟨by omega, by omega⟩ ⟨by omega, by omega⟩) bk (Nat.le_of_ble_eq_true rfl) (Nat.le_of_ble_eq_true rfl) ⟨Nat.le_refl _, Nat.le_refl _⟩ ?_
  rw [nx]
  refine x_istore dL_leaves_31 (by decide) ?_
  show JX _ _ _ _ _ _ _ _ _ _ _ [_, _, _, _, _, _, _, _] _ _
  refine x_iload_n dL_leaves_33 rfl ?_
  refine x_iconst dL_leaves_34 ?_
  refine x_ic_ge (tgt := 43) dL_leaves_35 (by decide) ⟨by omega, by omega⟩ ⟨by omega, by omega⟩ (fun hb35 => ?_) (fun h => (h (by omega)).elim)
  refine x_iload_n dL_leaves_43 rfl ?_
  refine x_if_ne (tgt := 56) dL_leaves_44 (by decide) ⟨by omega, by omega⟩ (fun h => absurd h (by omega)) (fun hb44 => ?_)
  refine x_aload_n dL_leaves_47 rfl ?_
  refine x_iload_n dL_leaves_48 rfl ?_
  refine x_iconst dL_leaves_49 ?_
  refine c_RL_38d dL_leaves_50 rfl (tl_y hP ht hc ⟨by omega, by omega⟩ ⟨by omega, by omega⟩) bk (Nat.le_of_ble_eq_true rfl) (Nat.le_of_ble_eq_true rfl) ⟨Nat.le_refl _, Nat.le_refl _⟩ ?_
  refine x_goto (tgt := 62) dL_leaves_53 (by decide) ?_
  refine x_istore dL_leaves_62 (by decide) ?_
  show JX _ _ _ _ _ _ _ _ _ _ _ [_, _, _, _, _, _, _, _] _ _
  refine x_aload_n dL_leaves_64 rfl ?_
  refine x_iload_n dL_leaves_65 rfl ?_
  refine x_bipush dL_leaves_66 (by decide) ?_
  refine c_RL_15d dL_leaves_68 rfl (tc_8 hP ht hc) bk (Nat.le_of_ble_eq_true rfl) (Nat.le_of_ble_eq_true rfl) ⟨Nat.le_refl _, Nat.le_refl _⟩ ?_
  refine x_iload_n dL_leaves_71 rfl ?_
  refine x_ic_eq (tgt := 79) dL_leaves_72 (by decide) ⟨by omega, by omega⟩ ⟨by omega, by omega⟩ (fun hb72 => ?_) (fun h => (h (by omega)).elim)
  refine x_iload_n dL_leaves_79 rfl ?_
  refine x_if_ne (tgt := 87) dL_leaves_80 (by decide) ⟨by omega, by omega⟩ (fun hb80 => ?_) (fun h => (h (by omega)).elim)
  refine x_aload_n dL_leaves_87 rfl ?_
  refine x_iload dL_leaves_88 rfl ?_
  refine x_bipush dL_leaves_90 (by decide) ?_
  refine c_RL_22d dL_leaves_92 rfl (tb_6 hP ht hk) bk (Nat.le_of_ble_eq_true rfl) (Nat.le_of_ble_eq_true rfl) ⟨Nat.le_refl _, Nat.le_refl _⟩ ?_
  rw [ta]
  refine x_iconst dL_leaves_95 ?_
  refine x_ic_ne (tgt := 103) dL_leaves_96 (by decide) ⟨by omega, by omega⟩ ⟨by omega, by omega⟩ (fun h => absurd h (by omega)) (fun hb96 => ?_)
  refine x_iconst dL_leaves_99 ?_
  refine x_goto (tgt := 142) dL_leaves_100 (by decide) ?_
  refine x_istore dL_leaves_142 (by decide) ?_
  show JX _ _ _ _ _ _ _ _ _ _ _ [_, _, _, _, _, _, _, _] _ _
  refine x_aload_n dL_leaves_144 rfl ?_
  refine x_iload_n dL_leaves_145 rfl ?_
  refine x_iload_n dL_leaves_146 rfl ?_
  refine c_RL_69p dL_leaves_147 rfl (kX7_leave hP.1 (Or.inl rfl) hP.2.1 ht2 ⟨by omega, by omega⟩ ⟨by omega, by omega⟩) bk (Nat.le_of_ble_eq_true rfl) (Nat.le_of_ble_eq_true rfl) ⟨Nat.le_refl _, Nat.le_refl _⟩ (fun w2 D2 h2 => ?_)
  obtain ⟨rfl, hP2⟩ := hP.ref hz (by decide) h2
  refine x_istore dL_leaves_150 (by decide) ?_
  show JX _ _ _ _ _ _ _ _ _ _ _ [_, _, _, _, _, _, _, _] _ _
  refine x_iload dL_leaves_152 rfl ?_
  refine x_if_le (tgt := 191) dL_leaves_154 (by decide) ⟨by omega, by omega⟩ (fun h => absurd h (by omega)) (fun hb154 => ?_)
  refine x_iload dL_leaves_157 rfl ?_
  refine x_ldc (e := -100000003) dL_leaves_159 ct_RL_59 (by decide) ?_
  refine x_ic_ne (tgt := 189) dL_leaves_161 (by decide) ⟨by omega, by omega⟩ ⟨by omega, by omega⟩ (fun h => absurd h (by omega)) (fun hb161 => ?_)
  refine x_aload_n dL_leaves_164 rfl ?_
  refine x_bipush dL_leaves_165 (by decide) ?_
  refine c_RL_18d dL_leaves_167 rfl (tn_7 hP2 ht2) bk (Nat.le_of_ble_eq_true rfl) (Nat.le_of_ble_eq_true rfl) ⟨Nat.le_refl _, Nat.le_refl _⟩ ?_
  refine x_iload dL_leaves_170 rfl ?_
  refine x_ic_ne (tgt := 189) dL_leaves_172 (by decide) ⟨by omega, by omega⟩ ⟨by omega, by omega⟩ (fun h => absurd h (by omega)) (fun hb172 => ?_)
  refine x_aload_n dL_leaves_175 rfl ?_
  refine x_iload_n dL_leaves_176 rfl ?_
  refine x_iconst dL_leaves_177 ?_
  refine c_RL_15d dL_leaves_178 rfl (tc_3 hP2 ht2 hc) bk (Nat.le_of_ble_eq_true rfl) (Nat.le_of_ble_eq_true rfl) ⟨Nat.le_refl _, Nat.le_refl _⟩ ?_
  refine x_iload_n dL_leaves_181 rfl ?_
  refine x_ic_ne (tgt := 189) dL_leaves_182 (by decide) ⟨by omega, by omega⟩ ⟨by omega, by omega⟩ (fun h => absurd h (by omega)) (fun hb182 => ?_)
  refine x_iconst dL_leaves_185 ?_
  refine x_goto (tgt := 190) dL_leaves_186 (by decide) ?_
  exact x_ireturn dL_leaves_190 rfl (jbool (by first | exact Or.inl rfl | exact Or.inr rfl)).1 ⟨Nat.le_refl _, Nat.le_refl _⟩ ⟨rfl, _, rfl, rfl, _, _, _, _, hP2, hE, rfl, rfl⟩
theorem leaves_027 {G : JG} {S : JS} {D : JD} {d : Nat} {X t n q : Int} {hs : Int → Int → Int} {r : Int → Int} {e : Int} {c : Int} (hP : pSt S D X t n hs r q) (hE : pIn e r) (t0 : 0 ≤ t) (ht2 : t + 100 ≤ 60000) (hc : 0 ≤ c ∧ c < r 1) (h2 : ¬ r (29 + 11 * c) ≠ 0) (h4 : ¬ r (161 + 13 * c) = 0) (h5 : ¬ gAgr r (sNext r c 0)) (h7 : gDeep r (sNext r c 0) c 0) (hn : 2 ≤ r (161 + 13 * c)) : JM G yL_leaves cL_leaves 8 (some .boolean) (d + 7) (0, 0) S D [.inr (.inr (some X)), .inl c, .inl 0] (jOK S X (t + 100) e (r 1) (r 2)) := by
  have ht : t ≤ 60000 := by omega
  have hB := hP.1
  have bk := hB.1
  have hI := hP.2.1.2.2.2.1
  have b1 := hI.1
  obtain ⟨c4, ln0, ln1, lf0, lf1, gt, s0, s1, s2, s3, sg, v0, v1, w0, w1, f0, f1, k0, k1, kk, a0, a1, g0, g1⟩ := hI.cB ht hc
  have hg : (0 : Int) = 0 ∨ (0 : Int) = 1 := by omega
  have sgg := sg 0 hg
  obtain ⟨x0, x1, xp⟩ := hI.next (g := 0) hc.1 hc.2 (by omega)
  have hk : 0 ≤ sNext r c 0 ∧ sNext r c 0 < r 2 := ⟨x0, x1⟩
  obtain ⟨bk0, q0, q1, q2, q3, q4, q5, q6, q7, q8, q9, q10, q11, bp, q13, q14, q15, q16, q17, q18⟩ := hI.bB ht hk
  have nx : r (162 + 13 * c + (0)) = sNext r c 0 := by
    unfold sNext
    rw [if_pos rfl, Int.add_zero]
  have l2 := (hI.lines hc.1 hc.2).1 1 (by omega) (by omega)
  have ta := tA_n h5
  have h7b : sLv r (100 + c) - sHg r c 0 - r 3 < sDr r (sNext r c 0) := h7
  have hz : zLeave c 0 r = (-100000003, none, 7) := by unfold zLeave; rw [if_pos ⟨hc, hg⟩, if_neg h2, if_neg h4, if_neg h5, if_pos h7]
  show JX _ _ _ _ _ _ _ _ _ _ _ [_, _, _, _, _, _, _, _] _ _
  refine x_aload_n dL_leaves_0 rfl ?_
  refine x_iload_n dL_leaves_1 rfl ?_
  refine x_iconst dL_leaves_2 ?_
  refine c_RL_15d dL_leaves_3 rfl (tc_3 hP ht hc) bk (Nat.le_of_ble_eq_true rfl) (Nat.le_of_ble_eq_true rfl) ⟨Nat.le_refl _, Nat.le_refl _⟩ ?_
  refine x_istore_n dL_leaves_6 (by decide) ?_
  show JX _ _ _ _ _ _ _ _ _ _ _ [_, _, _, _, _, _, _, _] _ _
  refine x_iload_n dL_leaves_7 rfl ?_
  refine x_if_ne (tgt := 15) dL_leaves_8 (by decide) ⟨by omega, by omega⟩ (fun hb8 => ?_) (fun h => (h (by omega)).elim)
  refine x_aload_n dL_leaves_15 rfl ?_
  refine x_iload_n dL_leaves_16 rfl ?_
  refine x_iload_n dL_leaves_17 rfl ?_
  refine x_if_ne (tgt := 25) dL_leaves_18 (by decide) ⟨by omega, by omega⟩ (fun h => absurd h (by omega)) (fun hb18 => ?_)
  refine x_iconst dL_leaves_21 ?_
  refine x_goto (tgt := 28) dL_leaves_22 (by decide) ?_
  refine c_RL_38d dL_leaves_28 rfl (tl_y hP ht hc ⟨by omega, by omega⟩ ⟨by omega, by omega⟩) bk (Nat.le_of_ble_eq_true rfl) (Nat.le_of_ble_eq_true rfl) ⟨Nat.le_refl _, Nat.le_refl _⟩ ?_
  rw [nx]
  refine x_istore dL_leaves_31 (by decide) ?_
  show JX _ _ _ _ _ _ _ _ _ _ _ [_, _, _, _, _, _, _, _] _ _
  refine x_iload_n dL_leaves_33 rfl ?_
  refine x_iconst dL_leaves_34 ?_
  refine x_ic_ge (tgt := 43) dL_leaves_35 (by decide) ⟨by omega, by omega⟩ ⟨by omega, by omega⟩ (fun hb35 => ?_) (fun h => (h (by omega)).elim)
  refine x_iload_n dL_leaves_43 rfl ?_
  refine x_if_ne (tgt := 56) dL_leaves_44 (by decide) ⟨by omega, by omega⟩ (fun h => absurd h (by omega)) (fun hb44 => ?_)
  refine x_aload_n dL_leaves_47 rfl ?_
  refine x_iload_n dL_leaves_48 rfl ?_
  refine x_iconst dL_leaves_49 ?_
  refine c_RL_38d dL_leaves_50 rfl (tl_y hP ht hc ⟨by omega, by omega⟩ ⟨by omega, by omega⟩) bk (Nat.le_of_ble_eq_true rfl) (Nat.le_of_ble_eq_true rfl) ⟨Nat.le_refl _, Nat.le_refl _⟩ ?_
  refine x_goto (tgt := 62) dL_leaves_53 (by decide) ?_
  refine x_istore dL_leaves_62 (by decide) ?_
  show JX _ _ _ _ _ _ _ _ _ _ _ [_, _, _, _, _, _, _, _] _ _
  refine x_aload_n dL_leaves_64 rfl ?_
  refine x_iload_n dL_leaves_65 rfl ?_
  refine x_bipush dL_leaves_66 (by decide) ?_
  refine c_RL_15d dL_leaves_68 rfl (tc_8 hP ht hc) bk (Nat.le_of_ble_eq_true rfl) (Nat.le_of_ble_eq_true rfl) ⟨Nat.le_refl _, Nat.le_refl _⟩ ?_
  refine x_iload_n dL_leaves_71 rfl ?_
  refine x_ic_eq (tgt := 79) dL_leaves_72 (by decide) ⟨by omega, by omega⟩ ⟨by omega, by omega⟩ (fun hb72 => ?_) (fun h => (h (by omega)).elim)
  refine x_iload_n dL_leaves_79 rfl ?_
  refine x_if_ne (tgt := 87) dL_leaves_80 (by decide) ⟨by omega, by omega⟩ (fun hb80 => ?_) (fun h => (h (by omega)).elim)
  refine x_aload_n dL_leaves_87 rfl ?_
  refine x_iload dL_leaves_88 rfl ?_
  refine x_bipush dL_leaves_90 (by decide) ?_
  refine c_RL_22d dL_leaves_92 rfl (tb_6 hP ht hk) bk (Nat.le_of_ble_eq_true rfl) (Nat.le_of_ble_eq_true rfl) ⟨Nat.le_refl _, Nat.le_refl _⟩ ?_
  rw [ta]
  refine x_iconst dL_leaves_95 ?_
  refine x_ic_ne (tgt := 103) dL_leaves_96 (by decide) ⟨by omega, by omega⟩ ⟨by omega, by omega⟩ (fun hb96 => ?_) (fun h => (h (by omega)).elim)
  refine x_aload_n dL_leaves_103 rfl ?_
  refine x_iload_n dL_leaves_104 rfl ?_
  refine x_iconst dL_leaves_105 ?_
  refine c_RL_15d dL_leaves_106 rfl (tc_0 hP ht hc) bk (Nat.le_of_ble_eq_true rfl) (Nat.le_of_ble_eq_true rfl) ⟨Nat.le_refl _, Nat.le_refl _⟩ ?_
  refine x_aload_n dL_leaves_109 rfl ?_
  refine x_iload_n dL_leaves_110 rfl ?_
  refine x_bipush dL_leaves_111 (by decide) ?_
  refine x_iload_n dL_leaves_113 rfl ?_
  refine x_iadd dL_leaves_114 ?_
  refine c_RL_15d dL_leaves_115 rfl (tc_s (g := 0) hP ht hc hg) bk (Nat.le_of_ble_eq_true rfl) (Nat.le_of_ble_eq_true rfl) ⟨Nat.le_refl _, Nat.le_refl _⟩ ?_
  refine x_isub dL_leaves_118 ?_
  refine x_aload_n dL_leaves_119 rfl ?_
  refine x_iload dL_leaves_120 rfl ?_
  refine x_iconst dL_leaves_122 ?_
  refine c_RL_22d dL_leaves_123 rfl (tb_2 hP ht hk) bk (Nat.le_of_ble_eq_true rfl) (Nat.le_of_ble_eq_true rfl) ⟨Nat.le_refl _, Nat.le_refl _⟩ ?_
  refine x_aload_n dL_leaves_126 rfl ?_
  refine x_bipush dL_leaves_127 (by decide) ?_
  refine c_RL_18d dL_leaves_129 rfl (tn_6 hP ht) bk (Nat.le_of_ble_eq_true rfl) (Nat.le_of_ble_eq_true rfl) ⟨Nat.le_refl _, Nat.le_refl _⟩ ?_
  refine x_iadd dL_leaves_132 ?_
  refine x_ic_ge (tgt := 141) dL_leaves_133 (by decide) ⟨by omega, by omega⟩ ⟨by omega, by omega⟩ (fun h => absurd h (by omega)) (fun hb133 => ?_)
  refine x_bipush dL_leaves_136 (by decide) ?_
  refine x_goto (tgt := 142) dL_leaves_138 (by decide) ?_
  refine x_istore dL_leaves_142 (by decide) ?_
  show JX _ _ _ _ _ _ _ _ _ _ _ [_, _, _, _, _, _, _, _] _ _
  refine x_aload_n dL_leaves_144 rfl ?_
  refine x_iload_n dL_leaves_145 rfl ?_
  refine x_iload_n dL_leaves_146 rfl ?_
  refine c_RL_69p dL_leaves_147 rfl (kX7_leave hP.1 (Or.inl rfl) hP.2.1 ht2 ⟨by omega, by omega⟩ ⟨by omega, by omega⟩) bk (Nat.le_of_ble_eq_true rfl) (Nat.le_of_ble_eq_true rfl) ⟨Nat.le_refl _, Nat.le_refl _⟩ (fun w2 D2 h2 => ?_)
  obtain ⟨rfl, hP2⟩ := hP.ref hz (by decide) h2
  refine x_istore dL_leaves_150 (by decide) ?_
  show JX _ _ _ _ _ _ _ _ _ _ _ [_, _, _, _, _, _, _, _] _ _
  refine x_iload dL_leaves_152 rfl ?_
  refine x_if_le (tgt := 191) dL_leaves_154 (by decide) ⟨by omega, by omega⟩ (fun h => absurd h (by omega)) (fun hb154 => ?_)
  refine x_iload dL_leaves_157 rfl ?_
  refine x_ldc (e := -100000003) dL_leaves_159 ct_RL_59 (by decide) ?_
  refine x_ic_ne (tgt := 189) dL_leaves_161 (by decide) ⟨by omega, by omega⟩ ⟨by omega, by omega⟩ (fun h => absurd h (by omega)) (fun hb161 => ?_)
  refine x_aload_n dL_leaves_164 rfl ?_
  refine x_bipush dL_leaves_165 (by decide) ?_
  refine c_RL_18d dL_leaves_167 rfl (tn_7 hP2 ht2) bk (Nat.le_of_ble_eq_true rfl) (Nat.le_of_ble_eq_true rfl) ⟨Nat.le_refl _, Nat.le_refl _⟩ ?_
  refine x_iload dL_leaves_170 rfl ?_
  refine x_ic_ne (tgt := 189) dL_leaves_172 (by decide) ⟨by omega, by omega⟩ ⟨by omega, by omega⟩ (fun h => absurd h (by omega)) (fun hb172 => ?_)
  refine x_aload_n dL_leaves_175 rfl ?_
  refine x_iload_n dL_leaves_176 rfl ?_
  refine x_iconst dL_leaves_177 ?_
  refine c_RL_15d dL_leaves_178 rfl (tc_3 hP2 ht2 hc) bk (Nat.le_of_ble_eq_true rfl) (Nat.le_of_ble_eq_true rfl) ⟨Nat.le_refl _, Nat.le_refl _⟩ ?_
  refine x_iload_n dL_leaves_181 rfl ?_
  refine x_ic_ne (tgt := 189) dL_leaves_182 (by decide) ⟨by omega, by omega⟩ ⟨by omega, by omega⟩ (fun h => absurd h (by omega)) (fun hb182 => ?_)
  refine x_iconst dL_leaves_185 ?_
  refine x_goto (tgt := 190) dL_leaves_186 (by decide) ?_
  exact x_ireturn dL_leaves_190 rfl (jbool (by first | exact Or.inl rfl | exact Or.inr rfl)).1 ⟨Nat.le_refl _, Nat.le_refl _⟩ ⟨rfl, _, rfl, rfl, _, _, _, _, hP2, hE, rfl, rfl⟩
theorem leaves_020 {G : JG} {S : JS} {D : JD} {d : Nat} {X t n q : Int} {hs : Int → Int → Int} {r : Int → Int} {e : Int} {c : Int} (hP : pSt S D X t n hs r q) (hE : pIn e r) (t0 : 0 ≤ t) (ht2 : t + 100 ≤ 60000) (hc : 0 ≤ c ∧ c < r 1) (h2 : ¬ r (29 + 11 * c) ≠ 0) (h4 : ¬ r (161 + 13 * c) = 0) (h5 : ¬ gAgr r (sNext r c 0)) (h7 : ¬ gDeep r (sNext r c 0) c 0) (hn : 2 ≤ r (161 + 13 * c)) : JM G yL_leaves cL_leaves 8 (some .boolean) (d + 7) (0, 0) S D [.inr (.inr (some X)), .inl c, .inl 0] (jOK S X (t + 100) e (r 1) (r 2)) := by
  have ht : t ≤ 60000 := by omega
  have hB := hP.1
  have bk := hB.1
  have hI := hP.2.1.2.2.2.1
  have b1 := hI.1
  obtain ⟨c4, ln0, ln1, lf0, lf1, gt, s0, s1, s2, s3, sg, v0, v1, w0, w1, f0, f1, k0, k1, kk, a0, a1, g0, g1⟩ := hI.cB ht hc
  have hg : (0 : Int) = 0 ∨ (0 : Int) = 1 := by omega
  have sgg := sg 0 hg
  obtain ⟨x0, x1, xp⟩ := hI.next (g := 0) hc.1 hc.2 (by omega)
  have hk : 0 ≤ sNext r c 0 ∧ sNext r c 0 < r 2 := ⟨x0, x1⟩
  obtain ⟨bk0, q0, q1, q2, q3, q4, q5, q6, q7, q8, q9, q10, q11, bp, q13, q14, q15, q16, q17, q18⟩ := hI.bB ht hk
  have nx : r (162 + 13 * c + (0)) = sNext r c 0 := by
    unfold sNext
    rw [if_pos rfl, Int.add_zero]
  have l2 := (hI.lines hc.1 hc.2).1 1 (by omega) (by omega)
  have ta := tA_n h5
  have h7b : ¬ sLv r (100 + c) - sHg r c 0 - r 3 < sDr r (sNext r c 0) := h7
  have hz : zLeave c 0 r = (sNext r c 0, some (rLeave (sNext r c 0) c 0 r), 0) := by unfold zLeave; rw [if_pos ⟨hc, hg⟩, if_neg h2, if_neg h4, if_neg h5, if_neg h7]
  obtain ⟨hI3, of, k1a, k2a, m71, m161, m0⟩ := leave_nums hI hc hg h4
  have hE3 := (hE.off hI of).all hI3
  have hc2 : 0 ≤ c ∧ c < sAll (rLeave (sNext r c 0) c 0 r) 1 := ⟨hc.1, by omega⟩
  have hk2 : 0 ≤ sNext r c 0 ∧ sNext r c 0 < sAll (rLeave (sNext r c 0) c 0 r) 2 := ⟨x0, by omega⟩
  have m0b := m0 hn
  rw [if_pos rfl] at m0b
  show JX _ _ _ _ _ _ _ _ _ _ _ [_, _, _, _, _, _, _, _] _ _
  refine x_aload_n dL_leaves_0 rfl ?_
  refine x_iload_n dL_leaves_1 rfl ?_
  refine x_iconst dL_leaves_2 ?_
  refine c_RL_15d dL_leaves_3 rfl (tc_3 hP ht hc) bk (Nat.le_of_ble_eq_true rfl) (Nat.le_of_ble_eq_true rfl) ⟨Nat.le_refl _, Nat.le_refl _⟩ ?_
  refine x_istore_n dL_leaves_6 (by decide) ?_
  show JX _ _ _ _ _ _ _ _ _ _ _ [_, _, _, _, _, _, _, _] _ _
  refine x_iload_n dL_leaves_7 rfl ?_
  refine x_if_ne (tgt := 15) dL_leaves_8 (by decide) ⟨by omega, by omega⟩ (fun hb8 => ?_) (fun h => (h (by omega)).elim)
  refine x_aload_n dL_leaves_15 rfl ?_
  refine x_iload_n dL_leaves_16 rfl ?_
  refine x_iload_n dL_leaves_17 rfl ?_
  refine x_if_ne (tgt := 25) dL_leaves_18 (by decide) ⟨by omega, by omega⟩ (fun h => absurd h (by omega)) (fun hb18 => ?_)
  refine x_iconst dL_leaves_21 ?_
  refine x_goto (tgt := 28) dL_leaves_22 (by decide) ?_
  refine c_RL_38d dL_leaves_28 rfl (tl_y hP ht hc ⟨by omega, by omega⟩ ⟨by omega, by omega⟩) bk (Nat.le_of_ble_eq_true rfl) (Nat.le_of_ble_eq_true rfl) ⟨Nat.le_refl _, Nat.le_refl _⟩ ?_
  rw [nx]
  refine x_istore dL_leaves_31 (by decide) ?_
  show JX _ _ _ _ _ _ _ _ _ _ _ [_, _, _, _, _, _, _, _] _ _
  refine x_iload_n dL_leaves_33 rfl ?_
  refine x_iconst dL_leaves_34 ?_
  refine x_ic_ge (tgt := 43) dL_leaves_35 (by decide) ⟨by omega, by omega⟩ ⟨by omega, by omega⟩ (fun hb35 => ?_) (fun h => (h (by omega)).elim)
  refine x_iload_n dL_leaves_43 rfl ?_
  refine x_if_ne (tgt := 56) dL_leaves_44 (by decide) ⟨by omega, by omega⟩ (fun h => absurd h (by omega)) (fun hb44 => ?_)
  refine x_aload_n dL_leaves_47 rfl ?_
  refine x_iload_n dL_leaves_48 rfl ?_
  refine x_iconst dL_leaves_49 ?_
  refine c_RL_38d dL_leaves_50 rfl (tl_y hP ht hc ⟨by omega, by omega⟩ ⟨by omega, by omega⟩) bk (Nat.le_of_ble_eq_true rfl) (Nat.le_of_ble_eq_true rfl) ⟨Nat.le_refl _, Nat.le_refl _⟩ ?_
  refine x_goto (tgt := 62) dL_leaves_53 (by decide) ?_
  refine x_istore dL_leaves_62 (by decide) ?_
  show JX _ _ _ _ _ _ _ _ _ _ _ [_, _, _, _, _, _, _, _] _ _
  refine x_aload_n dL_leaves_64 rfl ?_
  refine x_iload_n dL_leaves_65 rfl ?_
  refine x_bipush dL_leaves_66 (by decide) ?_
  refine c_RL_15d dL_leaves_68 rfl (tc_8 hP ht hc) bk (Nat.le_of_ble_eq_true rfl) (Nat.le_of_ble_eq_true rfl) ⟨Nat.le_refl _, Nat.le_refl _⟩ ?_
  refine x_iload_n dL_leaves_71 rfl ?_
  refine x_ic_eq (tgt := 79) dL_leaves_72 (by decide) ⟨by omega, by omega⟩ ⟨by omega, by omega⟩ (fun hb72 => ?_) (fun h => (h (by omega)).elim)
  refine x_iload_n dL_leaves_79 rfl ?_
  refine x_if_ne (tgt := 87) dL_leaves_80 (by decide) ⟨by omega, by omega⟩ (fun hb80 => ?_) (fun h => (h (by omega)).elim)
  refine x_aload_n dL_leaves_87 rfl ?_
  refine x_iload dL_leaves_88 rfl ?_
  refine x_bipush dL_leaves_90 (by decide) ?_
  refine c_RL_22d dL_leaves_92 rfl (tb_6 hP ht hk) bk (Nat.le_of_ble_eq_true rfl) (Nat.le_of_ble_eq_true rfl) ⟨Nat.le_refl _, Nat.le_refl _⟩ ?_
  rw [ta]
  refine x_iconst dL_leaves_95 ?_
  refine x_ic_ne (tgt := 103) dL_leaves_96 (by decide) ⟨by omega, by omega⟩ ⟨by omega, by omega⟩ (fun hb96 => ?_) (fun h => (h (by omega)).elim)
  refine x_aload_n dL_leaves_103 rfl ?_
  refine x_iload_n dL_leaves_104 rfl ?_
  refine x_iconst dL_leaves_105 ?_
  refine c_RL_15d dL_leaves_106 rfl (tc_0 hP ht hc) bk (Nat.le_of_ble_eq_true rfl) (Nat.le_of_ble_eq_true rfl) ⟨Nat.le_refl _, Nat.le_refl _⟩ ?_
  refine x_aload_n dL_leaves_109 rfl ?_
  refine x_iload_n dL_leaves_110 rfl ?_
  refine x_bipush dL_leaves_111 (by decide) ?_
  refine x_iload_n dL_leaves_113 rfl ?_
  refine x_iadd dL_leaves_114 ?_
  refine c_RL_15d dL_leaves_115 rfl (tc_s (g := 0) hP ht hc hg) bk (Nat.le_of_ble_eq_true rfl) (Nat.le_of_ble_eq_true rfl) ⟨Nat.le_refl _, Nat.le_refl _⟩ ?_
  refine x_isub dL_leaves_118 ?_
  refine x_aload_n dL_leaves_119 rfl ?_
  refine x_iload dL_leaves_120 rfl ?_
  refine x_iconst dL_leaves_122 ?_
  refine c_RL_22d dL_leaves_123 rfl (tb_2 hP ht hk) bk (Nat.le_of_ble_eq_true rfl) (Nat.le_of_ble_eq_true rfl) ⟨Nat.le_refl _, Nat.le_refl _⟩ ?_
  refine x_aload_n dL_leaves_126 rfl ?_
  refine x_bipush dL_leaves_127 (by decide) ?_
  refine c_RL_18d dL_leaves_129 rfl (tn_6 hP ht) bk (Nat.le_of_ble_eq_true rfl) (Nat.le_of_ble_eq_true rfl) ⟨Nat.le_refl _, Nat.le_refl _⟩ ?_
  refine x_iadd dL_leaves_132 ?_
  refine x_ic_ge (tgt := 141) dL_leaves_133 (by decide) ⟨by omega, by omega⟩ ⟨by omega, by omega⟩ (fun hb133 => ?_) (fun h => (h (by omega)).elim)
  refine x_iconst dL_leaves_141 ?_
  refine x_istore dL_leaves_142 (by decide) ?_
  show JX _ _ _ _ _ _ _ _ _ _ _ [_, _, _, _, _, _, _, _] _ _
  refine x_aload_n dL_leaves_144 rfl ?_
  refine x_iload_n dL_leaves_145 rfl ?_
  refine x_iload_n dL_leaves_146 rfl ?_
  refine c_RL_69p dL_leaves_147 rfl (kX7_leave hP.1 (Or.inl rfl) hP.2.1 ht2 ⟨by omega, by omega⟩ ⟨by omega, by omega⟩) bk (Nat.le_of_ble_eq_true rfl) (Nat.le_of_ble_eq_true rfl) ⟨Nat.le_refl _, Nat.le_refl _⟩ (fun w2 D2 h2 => ?_)
  obtain ⟨rfl, hP2⟩ := hP.some hz h2
  have hI2 := hP2.2.1.2.2.2.1
  have cB2 := hI2.line hc2.1 hc2.2
  refine x_istore dL_leaves_150 (by decide) ?_
  show JX _ _ _ _ _ _ _ _ _ _ _ [_, _, _, _, _, _, _, _] _ _
  refine x_iload dL_leaves_152 rfl ?_
  refine x_if_le (tgt := 191) dL_leaves_154 (by decide) ⟨by omega, by omega⟩ (fun hb154 => ?_) (fun h => (h (by omega)).elim)
  refine x_iload dL_leaves_191 rfl ?_
  refine x_iload dL_leaves_193 rfl ?_
  refine x_ic_ne (tgt := 239) dL_leaves_195 (by decide) ⟨by omega, by omega⟩ ⟨by omega, by omega⟩ (fun h => absurd h (by omega)) (fun hb195 => ?_)
  refine x_aload_n dL_leaves_198 rfl ?_
  refine x_iload dL_leaves_199 rfl ?_
  refine x_bipush dL_leaves_201 (by decide) ?_
  refine c_RL_22d dL_leaves_203 rfl (tb_7 hP2 ht2 hk2) bk (Nat.le_of_ble_eq_true rfl) (Nat.le_of_ble_eq_true rfl) ⟨Nat.le_refl _, Nat.le_refl _⟩ ?_
  rw [m71]
  refine x_iload_n dL_leaves_206 rfl ?_
  refine x_iload_n dL_leaves_207 rfl ?_
  refine x_iadd dL_leaves_208 ?_
  refine x_ic_ne (tgt := 239) dL_leaves_209 (by decide) ⟨by omega, by omega⟩ ⟨by omega, by omega⟩ (fun h => absurd h (by omega)) (fun hb209 => ?_)
  refine x_aload_n dL_leaves_212 rfl ?_
  refine x_iload_n dL_leaves_213 rfl ?_
  refine x_iconst dL_leaves_214 ?_
  refine c_RL_15d dL_leaves_215 rfl (tc_3 hP2 ht2 hc2) bk (Nat.le_of_ble_eq_true rfl) (Nat.le_of_ble_eq_true rfl) ⟨Nat.le_refl _, Nat.le_refl _⟩ ?_
  refine x_iload_n dL_leaves_218 rfl ?_
  refine x_iconst dL_leaves_219 ?_
  refine x_isub dL_leaves_220 ?_
  refine x_ic_ne (tgt := 239) dL_leaves_221 (by decide) ⟨by omega, by omega⟩ ⟨by omega, by omega⟩ (fun h => absurd h (by omega)) (fun hb221 => ?_)
  refine x_aload_n dL_leaves_224 rfl ?_
  refine x_iload_n dL_leaves_225 rfl ?_
  refine x_iconst dL_leaves_226 ?_
  refine c_RL_38d dL_leaves_227 rfl (tl_y hP2 ht2 hc2 ⟨by omega, by omega⟩ ⟨by omega, by omega⟩) bk (Nat.le_of_ble_eq_true rfl) (Nat.le_of_ble_eq_true rfl) ⟨Nat.le_refl _, Nat.le_refl _⟩ ?_
  rw [m0b]
  refine x_iload dL_leaves_230 rfl ?_
  refine x_ic_ne (tgt := 239) dL_leaves_232 (by decide) ⟨by omega, by omega⟩ ⟨by omega, by omega⟩ (fun h => absurd h (by omega)) (fun hb232 => ?_)
  refine x_iconst dL_leaves_235 ?_
  refine x_goto (tgt := 240) dL_leaves_236 (by decide) ?_
  exact x_ireturn dL_leaves_240 rfl (jbool (by first | exact Or.inl rfl | exact Or.inr rfl)).1 ⟨Nat.le_refl _, Nat.le_refl _⟩ ⟨rfl, _, rfl, rfl, _, _, _, _, hP2, hE3, k1a, k2a⟩
theorem leaves_102 {G : JG} {S : JS} {D : JD} {d : Nat} {X t n q : Int} {hs : Int → Int → Int} {r : Int → Int} {e : Int} {c : Int} (hP : pSt S D X t n hs r q) (hE : pIn e r) (t0 : 0 ≤ t) (ht2 : t + 100 ≤ 60000) (hc : 0 ≤ c ∧ c < r 1) (h2 : r (29 + 11 * c) ≠ 1) (hn : r (161 + 13 * c) = 0) : JM G yL_leaves cL_leaves 8 (some .boolean) (d + 7) (0, 0) S D [.inr (.inr (some X)), .inl c, .inl 1] (jOK S X (t + 100) e (r 1) (r 2)) := by
  have ht : t ≤ 60000 := by omega
  have hB := hP.1
  have bk := hB.1
  have hI := hP.2.1.2.2.2.1
  have b1 := hI.1
  obtain ⟨c4, ln0, ln1, lf0, lf1, gt, s0, s1, s2, s3, sg, v0, v1, w0, w1, f0, f1, k0, k1, kk, a0, a1, g0, g1⟩ := hI.cB ht hc
  have hg : (1 : Int) = 0 ∨ (1 : Int) = 1 := by omega
  have sgg := sg 1 hg
  have hz : zLeave c 1 r = (-100000003, none, 2) := by unfold zLeave; rw [if_pos ⟨hc, hg⟩, if_pos h2]
  show JX _ _ _ _ _ _ _ _ _ _ _ [_, _, _, _, _, _, _, _] _ _
  refine x_aload_n dL_leaves_0 rfl ?_
  refine x_iload_n dL_leaves_1 rfl ?_
  refine x_iconst dL_leaves_2 ?_
  refine c_RL_15d dL_leaves_3 rfl (tc_3 hP ht hc) bk (Nat.le_of_ble_eq_true rfl) (Nat.le_of_ble_eq_true rfl) ⟨Nat.le_refl _, Nat.le_refl _⟩ ?_
  refine x_istore_n dL_leaves_6 (by decide) ?_
  show JX _ _ _ _ _ _ _ _ _ _ _ [_, _, _, _, _, _, _, _] _ _
  refine x_iload_n dL_leaves_7 rfl ?_
  refine x_if_ne (tgt := 15) dL_leaves_8 (by decide) ⟨by omega, by omega⟩ (fun h => absurd h (by omega)) (fun hb8 => ?_)
  refine x_iconst dL_leaves_11 ?_
  refine x_goto (tgt := 31) dL_leaves_12 (by decide) ?_
  refine x_istore dL_leaves_31 (by decide) ?_
  show JX _ _ _ _ _ _ _ _ _ _ _ [_, _, _, _, _, _, _, _] _ _
  refine x_iload_n dL_leaves_33 rfl ?_
  refine x_iconst dL_leaves_34 ?_
  refine x_ic_ge (tgt := 43) dL_leaves_35 (by decide) ⟨by omega, by omega⟩ ⟨by omega, by omega⟩ (fun h => absurd h (by omega)) (fun hb35 => ?_)
  refine x_ldc (e := -100000005) dL_leaves_38 ct_RL_41 (by decide) ?_
  refine x_goto (tgt := 62) dL_leaves_40 (by decide) ?_
  refine x_istore dL_leaves_62 (by decide) ?_
  show JX _ _ _ _ _ _ _ _ _ _ _ [_, _, _, _, _, _, _, _] _ _
  refine x_aload_n dL_leaves_64 rfl ?_
  refine x_iload_n dL_leaves_65 rfl ?_
  refine x_bipush dL_leaves_66 (by decide) ?_
  refine c_RL_15d dL_leaves_68 rfl (tc_8 hP ht hc) bk (Nat.le_of_ble_eq_true rfl) (Nat.le_of_ble_eq_true rfl) ⟨Nat.le_refl _, Nat.le_refl _⟩ ?_
  refine x_iload_n dL_leaves_71 rfl ?_
  refine x_ic_eq (tgt := 79) dL_leaves_72 (by decide) ⟨by omega, by omega⟩ ⟨by omega, by omega⟩ (fun h => absurd h (by omega)) (fun hb72 => ?_)
  refine x_iconst dL_leaves_75 ?_
  refine x_goto (tgt := 142) dL_leaves_76 (by decide) ?_
  refine x_istore dL_leaves_142 (by decide) ?_
  show JX _ _ _ _ _ _ _ _ _ _ _ [_, _, _, _, _, _, _, _] _ _
  refine x_aload_n dL_leaves_144 rfl ?_
  refine x_iload_n dL_leaves_145 rfl ?_
  refine x_iload_n dL_leaves_146 rfl ?_
  refine c_RL_69p dL_leaves_147 rfl (kX7_leave hP.1 (Or.inl rfl) hP.2.1 ht2 ⟨by omega, by omega⟩ ⟨by omega, by omega⟩) bk (Nat.le_of_ble_eq_true rfl) (Nat.le_of_ble_eq_true rfl) ⟨Nat.le_refl _, Nat.le_refl _⟩ (fun w2 D2 h2 => ?_)
  obtain ⟨rfl, hP2⟩ := hP.ref hz (by decide) h2
  refine x_istore dL_leaves_150 (by decide) ?_
  show JX _ _ _ _ _ _ _ _ _ _ _ [_, _, _, _, _, _, _, _] _ _
  refine x_iload dL_leaves_152 rfl ?_
  refine x_if_le (tgt := 191) dL_leaves_154 (by decide) ⟨by omega, by omega⟩ (fun h => absurd h (by omega)) (fun hb154 => ?_)
  refine x_iload dL_leaves_157 rfl ?_
  refine x_ldc (e := -100000003) dL_leaves_159 ct_RL_59 (by decide) ?_
  refine x_ic_ne (tgt := 189) dL_leaves_161 (by decide) ⟨by omega, by omega⟩ ⟨by omega, by omega⟩ (fun h => absurd h (by omega)) (fun hb161 => ?_)
  refine x_aload_n dL_leaves_164 rfl ?_
  refine x_bipush dL_leaves_165 (by decide) ?_
  refine c_RL_18d dL_leaves_167 rfl (tn_7 hP2 ht2) bk (Nat.le_of_ble_eq_true rfl) (Nat.le_of_ble_eq_true rfl) ⟨Nat.le_refl _, Nat.le_refl _⟩ ?_
  refine x_iload dL_leaves_170 rfl ?_
  refine x_ic_ne (tgt := 189) dL_leaves_172 (by decide) ⟨by omega, by omega⟩ ⟨by omega, by omega⟩ (fun h => absurd h (by omega)) (fun hb172 => ?_)
  refine x_aload_n dL_leaves_175 rfl ?_
  refine x_iload_n dL_leaves_176 rfl ?_
  refine x_iconst dL_leaves_177 ?_
  refine c_RL_15d dL_leaves_178 rfl (tc_3 hP2 ht2 hc) bk (Nat.le_of_ble_eq_true rfl) (Nat.le_of_ble_eq_true rfl) ⟨Nat.le_refl _, Nat.le_refl _⟩ ?_
  refine x_iload_n dL_leaves_181 rfl ?_
  refine x_ic_ne (tgt := 189) dL_leaves_182 (by decide) ⟨by omega, by omega⟩ ⟨by omega, by omega⟩ (fun h => absurd h (by omega)) (fun hb182 => ?_)
  refine x_iconst dL_leaves_185 ?_
  refine x_goto (tgt := 190) dL_leaves_186 (by decide) ?_
  exact x_ireturn dL_leaves_190 rfl (jbool (by first | exact Or.inl rfl | exact Or.inr rfl)).1 ⟨Nat.le_refl _, Nat.le_refl _⟩ ⟨rfl, _, rfl, rfl, _, _, _, _, hP2, hE, rfl, rfl⟩
theorem leaves_104 {G : JG} {S : JS} {D : JD} {d : Nat} {X t n q : Int} {hs : Int → Int → Int} {r : Int → Int} {e : Int} {c : Int} (hP : pSt S D X t n hs r q) (hE : pIn e r) (t0 : 0 ≤ t) (ht2 : t + 100 ≤ 60000) (hc : 0 ≤ c ∧ c < r 1) (h2 : ¬ r (29 + 11 * c) ≠ 1) (h4 : r (161 + 13 * c) = 0) (hn : r (161 + 13 * c) = 0) : JM G yL_leaves cL_leaves 8 (some .boolean) (d + 7) (0, 0) S D [.inr (.inr (some X)), .inl c, .inl 1] (jOK S X (t + 100) e (r 1) (r 2)) := by
  have ht : t ≤ 60000 := by omega
  have hB := hP.1
  have bk := hB.1
  have hI := hP.2.1.2.2.2.1
  have b1 := hI.1
  obtain ⟨c4, ln0, ln1, lf0, lf1, gt, s0, s1, s2, s3, sg, v0, v1, w0, w1, f0, f1, k0, k1, kk, a0, a1, g0, g1⟩ := hI.cB ht hc
  have hg : (1 : Int) = 0 ∨ (1 : Int) = 1 := by omega
  have sgg := sg 1 hg
  have hz : zLeave c 1 r = (-100000003, none, 4) := by unfold zLeave; rw [if_pos ⟨hc, hg⟩, if_neg h2, if_pos h4]
  show JX _ _ _ _ _ _ _ _ _ _ _ [_, _, _, _, _, _, _, _] _ _
  refine x_aload_n dL_leaves_0 rfl ?_
  refine x_iload_n dL_leaves_1 rfl ?_
  refine x_iconst dL_leaves_2 ?_
  refine c_RL_15d dL_leaves_3 rfl (tc_3 hP ht hc) bk (Nat.le_of_ble_eq_true rfl) (Nat.le_of_ble_eq_true rfl) ⟨Nat.le_refl _, Nat.le_refl _⟩ ?_
  refine x_istore_n dL_leaves_6 (by decide) ?_
  show JX _ _ _ _ _ _ _ _ _ _ _ [_, _, _, _, _, _, _, _] _ _
  refine x_iload_n dL_leaves_7 rfl ?_
  refine x_if_ne (tgt := 15) dL_leaves_8 (by decide) ⟨by omega, by omega⟩ (fun h => absurd h (by omega)) (fun hb8 => ?_)
  refine x_iconst dL_leaves_11 ?_
  refine x_goto (tgt := 31) dL_leaves_12 (by decide) ?_
  refine x_istore dL_leaves_31 (by decide) ?_
  show JX _ _ _ _ _ _ _ _ _ _ _ [_, _, _, _, _, _, _, _] _ _
  refine x_iload_n dL_leaves_33 rfl ?_
  refine x_iconst dL_leaves_34 ?_
  refine x_ic_ge (tgt := 43) dL_leaves_35 (by decide) ⟨by omega, by omega⟩ ⟨by omega, by omega⟩ (fun h => absurd h (by omega)) (fun hb35 => ?_)
  refine x_ldc (e := -100000005) dL_leaves_38 ct_RL_41 (by decide) ?_
  refine x_goto (tgt := 62) dL_leaves_40 (by decide) ?_
  refine x_istore dL_leaves_62 (by decide) ?_
  show JX _ _ _ _ _ _ _ _ _ _ _ [_, _, _, _, _, _, _, _] _ _
  refine x_aload_n dL_leaves_64 rfl ?_
  refine x_iload_n dL_leaves_65 rfl ?_
  refine x_bipush dL_leaves_66 (by decide) ?_
  refine c_RL_15d dL_leaves_68 rfl (tc_8 hP ht hc) bk (Nat.le_of_ble_eq_true rfl) (Nat.le_of_ble_eq_true rfl) ⟨Nat.le_refl _, Nat.le_refl _⟩ ?_
  refine x_iload_n dL_leaves_71 rfl ?_
  refine x_ic_eq (tgt := 79) dL_leaves_72 (by decide) ⟨by omega, by omega⟩ ⟨by omega, by omega⟩ (fun hb72 => ?_) (fun h => (h (by omega)).elim)
  refine x_iload_n dL_leaves_79 rfl ?_
  refine x_if_ne (tgt := 87) dL_leaves_80 (by decide) ⟨by omega, by omega⟩ (fun h => absurd h (by omega)) (fun hb80 => ?_)
  refine x_iconst dL_leaves_83 ?_
  refine x_goto (tgt := 142) dL_leaves_84 (by decide) ?_
  refine x_istore dL_leaves_142 (by decide) ?_
  show JX _ _ _ _ _ _ _ _ _ _ _ [_, _, _, _, _, _, _, _] _ _
  refine x_aload_n dL_leaves_144 rfl ?_
  refine x_iload_n dL_leaves_145 rfl ?_
  refine x_iload_n dL_leaves_146 rfl ?_
  refine c_RL_69p dL_leaves_147 rfl (kX7_leave hP.1 (Or.inl rfl) hP.2.1 ht2 ⟨by omega, by omega⟩ ⟨by omega, by omega⟩) bk (Nat.le_of_ble_eq_true rfl) (Nat.le_of_ble_eq_true rfl) ⟨Nat.le_refl _, Nat.le_refl _⟩ (fun w2 D2 h2 => ?_)
  obtain ⟨rfl, hP2⟩ := hP.ref hz (by decide) h2
  refine x_istore dL_leaves_150 (by decide) ?_
  show JX _ _ _ _ _ _ _ _ _ _ _ [_, _, _, _, _, _, _, _] _ _
  refine x_iload dL_leaves_152 rfl ?_
  refine x_if_le (tgt := 191) dL_leaves_154 (by decide) ⟨by omega, by omega⟩ (fun h => absurd h (by omega)) (fun hb154 => ?_)
  refine x_iload dL_leaves_157 rfl ?_
  refine x_ldc (e := -100000003) dL_leaves_159 ct_RL_59 (by decide) ?_
  refine x_ic_ne (tgt := 189) dL_leaves_161 (by decide) ⟨by omega, by omega⟩ ⟨by omega, by omega⟩ (fun h => absurd h (by omega)) (fun hb161 => ?_)
  refine x_aload_n dL_leaves_164 rfl ?_
  refine x_bipush dL_leaves_165 (by decide) ?_
  refine c_RL_18d dL_leaves_167 rfl (tn_7 hP2 ht2) bk (Nat.le_of_ble_eq_true rfl) (Nat.le_of_ble_eq_true rfl) ⟨Nat.le_refl _, Nat.le_refl _⟩ ?_
  refine x_iload dL_leaves_170 rfl ?_
  refine x_ic_ne (tgt := 189) dL_leaves_172 (by decide) ⟨by omega, by omega⟩ ⟨by omega, by omega⟩ (fun h => absurd h (by omega)) (fun hb172 => ?_)
  refine x_aload_n dL_leaves_175 rfl ?_
  refine x_iload_n dL_leaves_176 rfl ?_
  refine x_iconst dL_leaves_177 ?_
  refine c_RL_15d dL_leaves_178 rfl (tc_3 hP2 ht2 hc) bk (Nat.le_of_ble_eq_true rfl) (Nat.le_of_ble_eq_true rfl) ⟨Nat.le_refl _, Nat.le_refl _⟩ ?_
  refine x_iload_n dL_leaves_181 rfl ?_
  refine x_ic_ne (tgt := 189) dL_leaves_182 (by decide) ⟨by omega, by omega⟩ ⟨by omega, by omega⟩ (fun h => absurd h (by omega)) (fun hb182 => ?_)
  refine x_iconst dL_leaves_185 ?_
  refine x_goto (tgt := 190) dL_leaves_186 (by decide) ?_
  exact x_ireturn dL_leaves_190 rfl (jbool (by first | exact Or.inl rfl | exact Or.inr rfl)).1 ⟨Nat.le_refl _, Nat.le_refl _⟩ ⟨rfl, _, rfl, rfl, _, _, _, _, hP2, hE, rfl, rfl⟩
theorem leaves_112 {G : JG} {S : JS} {D : JD} {d : Nat} {X t n q : Int} {hs : Int → Int → Int} {r : Int → Int} {e : Int} {c : Int} (hP : pSt S D X t n hs r q) (hE : pIn e r) (t0 : 0 ≤ t) (ht2 : t + 100 ≤ 60000) (hc : 0 ≤ c ∧ c < r 1) (h2 : r (29 + 11 * c) ≠ 1) (hn : r (161 + 13 * c) = 1) : JM G yL_leaves cL_leaves 8 (some .boolean) (d + 7) (0, 0) S D [.inr (.inr (some X)), .inl c, .inl 1] (jOK S X (t + 100) e (r 1) (r 2)) := by
  have ht : t ≤ 60000 := by omega
  have hB := hP.1
  have bk := hB.1
  have hI := hP.2.1.2.2.2.1
  have b1 := hI.1
  obtain ⟨c4, ln0, ln1, lf0, lf1, gt, s0, s1, s2, s3, sg, v0, v1, w0, w1, f0, f1, k0, k1, kk, a0, a1, g0, g1⟩ := hI.cB ht hc
  have hg : (1 : Int) = 0 ∨ (1 : Int) = 1 := by omega
  have sgg := sg 1 hg
  obtain ⟨x0, x1, xp⟩ := hI.next (g := 1) hc.1 hc.2 (by omega)
  have hk : 0 ≤ sNext r c 1 ∧ sNext r c 1 < r 2 := ⟨x0, x1⟩
  obtain ⟨bk0, q0, q1, q2, q3, q4, q5, q6, q7, q8, q9, q10, q11, bp, q13, q14, q15, q16, q17, q18⟩ := hI.bB ht hk
  have nx : r (162 + 13 * c + (sCn r (100 + c) - 1)) = sNext r c 1 := by
    unfold sNext
    rw [if_neg (by decide), kk]; congr 1; omega
  have hz : zLeave c 1 r = (-100000003, none, 2) := by unfold zLeave; rw [if_pos ⟨hc, hg⟩, if_pos h2]
  show JX _ _ _ _ _ _ _ _ _ _ _ [_, _, _, _, _, _, _, _] _ _
  refine x_aload_n dL_leaves_0 rfl ?_
  refine x_iload_n dL_leaves_1 rfl ?_
  refine x_iconst dL_leaves_2 ?_
  refine c_RL_15d dL_leaves_3 rfl (tc_3 hP ht hc) bk (Nat.le_of_ble_eq_true rfl) (Nat.le_of_ble_eq_true rfl) ⟨Nat.le_refl _, Nat.le_refl _⟩ ?_
  refine x_istore_n dL_leaves_6 (by decide) ?_
  show JX _ _ _ _ _ _ _ _ _ _ _ [_, _, _, _, _, _, _, _] _ _
  refine x_iload_n dL_leaves_7 rfl ?_
  refine x_if_ne (tgt := 15) dL_leaves_8 (by decide) ⟨by omega, by omega⟩ (fun hb8 => ?_) (fun h => (h (by omega)).elim)
  refine x_aload_n dL_leaves_15 rfl ?_
  refine x_iload_n dL_leaves_16 rfl ?_
  refine x_iload_n dL_leaves_17 rfl ?_
  refine x_if_ne (tgt := 25) dL_leaves_18 (by decide) ⟨by omega, by omega⟩ (fun hb18 => ?_) (fun h => (h (by omega)).elim)
  refine x_iload_n dL_leaves_25 rfl ?_
  refine x_iconst dL_leaves_26 ?_
  refine x_isub dL_leaves_27 ?_
  refine c_RL_38d dL_leaves_28 rfl (tl_y hP ht hc ⟨by omega, by omega⟩ ⟨by omega, by omega⟩) bk (Nat.le_of_ble_eq_true rfl) (Nat.le_of_ble_eq_true rfl) ⟨Nat.le_refl _, Nat.le_refl _⟩ ?_
  rw [nx]
  refine x_istore dL_leaves_31 (by decide) ?_
  show JX _ _ _ _ _ _ _ _ _ _ _ [_, _, _, _, _, _, _, _] _ _
  refine x_iload_n dL_leaves_33 rfl ?_
  refine x_iconst dL_leaves_34 ?_
  refine x_ic_ge (tgt := 43) dL_leaves_35 (by decide) ⟨by omega, by omega⟩ ⟨by omega, by omega⟩ (fun h => absurd h (by omega)) (fun hb35 => ?_)
  refine x_ldc (e := -100000005) dL_leaves_38 ct_RL_41 (by decide) ?_
  refine x_goto (tgt := 62) dL_leaves_40 (by decide) ?_
  refine x_istore dL_leaves_62 (by decide) ?_
  show JX _ _ _ _ _ _ _ _ _ _ _ [_, _, _, _, _, _, _, _] _ _
  refine x_aload_n dL_leaves_64 rfl ?_
  refine x_iload_n dL_leaves_65 rfl ?_
  refine x_bipush dL_leaves_66 (by decide) ?_
  refine c_RL_15d dL_leaves_68 rfl (tc_8 hP ht hc) bk (Nat.le_of_ble_eq_true rfl) (Nat.le_of_ble_eq_true rfl) ⟨Nat.le_refl _, Nat.le_refl _⟩ ?_
  refine x_iload_n dL_leaves_71 rfl ?_
  refine x_ic_eq (tgt := 79) dL_leaves_72 (by decide) ⟨by omega, by omega⟩ ⟨by omega, by omega⟩ (fun h => absurd h (by omega)) (fun hb72 => ?_)
  refine x_iconst dL_leaves_75 ?_
  refine x_goto (tgt := 142) dL_leaves_76 (by decide) ?_
  refine x_istore dL_leaves_142 (by decide) ?_
  show JX _ _ _ _ _ _ _ _ _ _ _ [_, _, _, _, _, _, _, _] _ _
  refine x_aload_n dL_leaves_144 rfl ?_
  refine x_iload_n dL_leaves_145 rfl ?_
  refine x_iload_n dL_leaves_146 rfl ?_
  refine c_RL_69p dL_leaves_147 rfl (kX7_leave hP.1 (Or.inl rfl) hP.2.1 ht2 ⟨by omega, by omega⟩ ⟨by omega, by omega⟩) bk (Nat.le_of_ble_eq_true rfl) (Nat.le_of_ble_eq_true rfl) ⟨Nat.le_refl _, Nat.le_refl _⟩ (fun w2 D2 h2 => ?_)
  obtain ⟨rfl, hP2⟩ := hP.ref hz (by decide) h2
  refine x_istore dL_leaves_150 (by decide) ?_
  show JX _ _ _ _ _ _ _ _ _ _ _ [_, _, _, _, _, _, _, _] _ _
  refine x_iload dL_leaves_152 rfl ?_
  refine x_if_le (tgt := 191) dL_leaves_154 (by decide) ⟨by omega, by omega⟩ (fun h => absurd h (by omega)) (fun hb154 => ?_)
  refine x_iload dL_leaves_157 rfl ?_
  refine x_ldc (e := -100000003) dL_leaves_159 ct_RL_59 (by decide) ?_
  refine x_ic_ne (tgt := 189) dL_leaves_161 (by decide) ⟨by omega, by omega⟩ ⟨by omega, by omega⟩ (fun h => absurd h (by omega)) (fun hb161 => ?_)
  refine x_aload_n dL_leaves_164 rfl ?_
  refine x_bipush dL_leaves_165 (by decide) ?_
  refine c_RL_18d dL_leaves_167 rfl (tn_7 hP2 ht2) bk (Nat.le_of_ble_eq_true rfl) (Nat.le_of_ble_eq_true rfl) ⟨Nat.le_refl _, Nat.le_refl _⟩ ?_
  refine x_iload dL_leaves_170 rfl ?_
  refine x_ic_ne (tgt := 189) dL_leaves_172 (by decide) ⟨by omega, by omega⟩ ⟨by omega, by omega⟩ (fun h => absurd h (by omega)) (fun hb172 => ?_)
  refine x_aload_n dL_leaves_175 rfl ?_
  refine x_iload_n dL_leaves_176 rfl ?_
  refine x_iconst dL_leaves_177 ?_
  refine c_RL_15d dL_leaves_178 rfl (tc_3 hP2 ht2 hc) bk (Nat.le_of_ble_eq_true rfl) (Nat.le_of_ble_eq_true rfl) ⟨Nat.le_refl _, Nat.le_refl _⟩ ?_
  refine x_iload_n dL_leaves_181 rfl ?_
  refine x_ic_ne (tgt := 189) dL_leaves_182 (by decide) ⟨by omega, by omega⟩ ⟨by omega, by omega⟩ (fun h => absurd h (by omega)) (fun hb182 => ?_)
  refine x_iconst dL_leaves_185 ?_
  refine x_goto (tgt := 190) dL_leaves_186 (by decide) ?_
  exact x_ireturn dL_leaves_190 rfl (jbool (by first | exact Or.inl rfl | exact Or.inr rfl)).1 ⟨Nat.le_refl _, Nat.le_refl _⟩ ⟨rfl, _, rfl, rfl, _, _, _, _, hP2, hE, rfl, rfl⟩
theorem leaves_115 {G : JG} {S : JS} {D : JD} {d : Nat} {X t n q : Int} {hs : Int → Int → Int} {r : Int → Int} {e : Int} {c : Int} (hP : pSt S D X t n hs r q) (hE : pIn e r) (t0 : 0 ≤ t) (ht2 : t + 100 ≤ 60000) (hc : 0 ≤ c ∧ c < r 1) (h2 : ¬ r (29 + 11 * c) ≠ 1) (h4 : ¬ r (161 + 13 * c) = 0) (h5 : gAgr r (sNext r c 1)) (hn : r (161 + 13 * c) = 1) : JM G yL_leaves cL_leaves 8 (some .boolean) (d + 7) (0, 0) S D [.inr (.inr (some X)), .inl c, .inl 1] (jOK S X (t + 100) e (r 1) (r 2)) := by
  have ht : t ≤ 60000 := by omega
  have hB := hP.1
  have bk := hB.1
  have hI := hP.2.1.2.2.2.1
  have b1 := hI.1
  obtain ⟨c4, ln0, ln1, lf0, lf1, gt, s0, s1, s2, s3, sg, v0, v1, w0, w1, f0, f1, k0, k1, kk, a0, a1, g0, g1⟩ := hI.cB ht hc
  have hg : (1 : Int) = 0 ∨ (1 : Int) = 1 := by omega
  have sgg := sg 1 hg
  obtain ⟨x0, x1, xp⟩ := hI.next (g := 1) hc.1 hc.2 (by omega)
  have hk : 0 ≤ sNext r c 1 ∧ sNext r c 1 < r 2 := ⟨x0, x1⟩
  obtain ⟨bk0, q0, q1, q2, q3, q4, q5, q6, q7, q8, q9, q10, q11, bp, q13, q14, q15, q16, q17, q18⟩ := hI.bB ht hk
  have nx : r (162 + 13 * c + (sCn r (100 + c) - 1)) = sNext r c 1 := by
    unfold sNext
    rw [if_neg (by decide), kk]; congr 1; omega
  have ta := tA_y h5
  have hz : zLeave c 1 r = (-100000003, none, 5) := by unfold zLeave; rw [if_pos ⟨hc, hg⟩, if_neg h2, if_neg h4, if_pos h5]
  show JX _ _ _ _ _ _ _ _ _ _ _ [_, _, _, _, _, _, _, _] _ _
  refine x_aload_n dL_leaves_0 rfl ?_
  refine x_iload_n dL_leaves_1 rfl ?_
  refine x_iconst dL_leaves_2 ?_
  refine c_RL_15d dL_leaves_3 rfl (tc_3 hP ht hc) bk (Nat.le_of_ble_eq_true rfl) (Nat.le_of_ble_eq_true rfl) ⟨Nat.le_refl _, Nat.le_refl _⟩ ?_
  refine x_istore_n dL_leaves_6 (by decide) ?_
  show JX _ _ _ _ _ _ _ _ _ _ _ [_, _, _, _, _, _, _, _] _ _
  refine x_iload_n dL_leaves_7 rfl ?_
  refine x_if_ne (tgt := 15) dL_leaves_8 (by decide) ⟨by omega, by omega⟩ (fun hb8 => ?_) (fun h => (h (by omega)).elim)
  refine x_aload_n dL_leaves_15 rfl ?_
  refine x_iload_n dL_leaves_16 rfl ?_
  refine x_iload_n dL_leaves_17 rfl ?_
  refine x_if_ne (tgt := 25) dL_leaves_18 (by decide) ⟨by omega, by omega⟩ (fun hb18 => ?_) (fun h => (h (by omega)).elim)
  refine x_iload_n dL_leaves_25 rfl ?_
  refine x_iconst dL_leaves_26 ?_
  refine x_isub dL_leaves_27 ?_
  refine c_RL_38d dL_leaves_28 rfl (tl_y hP ht hc ⟨by omega, by omega⟩ ⟨by omega, by omega⟩) bk (Nat.le_of_ble_eq_true rfl) (Nat.le_of_ble_eq_true rfl) ⟨Nat.le_refl _, Nat.le_refl _⟩ ?_
  rw [nx]
  refine x_istore dL_leaves_31 (by decide) ?_
  show JX _ _ _ _ _ _ _ _ _ _ _ [_, _, _, _, _, _, _, _] _ _
  refine x_iload_n dL_leaves_33 rfl ?_
  refine x_iconst dL_leaves_34 ?_
  refine x_ic_ge (tgt := 43) dL_leaves_35 (by decide) ⟨by omega, by omega⟩ ⟨by omega, by omega⟩ (fun h => absurd h (by omega)) (fun hb35 => ?_)
  refine x_ldc (e := -100000005) dL_leaves_38 ct_RL_41 (by decide) ?_
  refine x_goto (tgt := 62) dL_leaves_40 (by decide) ?_
  refine x_istore dL_leaves_62 (by decide) ?_
  show JX _ _ _ _ _ _ _ _ _ _ _ [_, _, _, _, _, _, _, _] _ _
  refine x_aload_n dL_leaves_64 rfl ?_
  refine x_iload_n dL_leaves_65 rfl ?_
  refine x_bipush dL_leaves_66 (by decide) ?_
  refine c_RL_15d dL_leaves_68 rfl (tc_8 hP ht hc) bk (Nat.le_of_ble_eq_true rfl) (Nat.le_of_ble_eq_true rfl) ⟨Nat.le_refl _, Nat.le_refl _⟩ ?_
  refine x_iload_n dL_leaves_71 rfl ?_
  refine x_ic_eq (tgt := 79) dL_leaves_72 (by decide) ⟨by omega, by omega⟩ ⟨by omega, by omega⟩ (fun hb72 => ?_) (fun h => (h (by omega)).elim)
  refine x_iload_n dL_leaves_79 rfl ?_
  refine x_if_ne (tgt := 87) dL_leaves_80 (by decide) ⟨by omega, by omega⟩ (fun hb80 => ?_) (fun h => (h (by omega)).elim)
  refine x_aload_n dL_leaves_87 rfl ?_
  refine x_iload dL_leaves_88 rfl ?_
  refine x_bipush dL_leaves_90 (by decide) ?_
  refine c_RL_22d dL_leaves_92 rfl (tb_6 hP ht hk) bk (Nat.le_of_ble_eq_true rfl) (Nat.le_of_ble_eq_true rfl) ⟨Nat.le_refl _, Nat.le_refl _⟩ ?_
  rw [ta]
  refine x_iconst dL_leaves_95 ?_
  refine x_ic_ne (tgt := 103) dL_leaves_96 (by decide) ⟨by omega, by omega⟩ ⟨by omega, by omega⟩ (fun h => absurd h (by omega)) (fun hb96 => ?_)
  refine x_iconst dL_leaves_99 ?_
  refine x_goto (tgt := 142) dL_leaves_100 (by decide) ?_
  refine x_istore dL_leaves_142 (by decide) ?_
  show JX _ _ _ _ _ _ _ _ _ _ _ [_, _, _, _, _, _, _, _] _ _
  refine x_aload_n dL_leaves_144 rfl ?_
  refine x_iload_n dL_leaves_145 rfl ?_
  refine x_iload_n dL_leaves_146 rfl ?_
  refine c_RL_69p dL_leaves_147 rfl (kX7_leave hP.1 (Or.inl rfl) hP.2.1 ht2 ⟨by omega, by omega⟩ ⟨by omega, by omega⟩) bk (Nat.le_of_ble_eq_true rfl) (Nat.le_of_ble_eq_true rfl) ⟨Nat.le_refl _, Nat.le_refl _⟩ (fun w2 D2 h2 => ?_)
  obtain ⟨rfl, hP2⟩ := hP.ref hz (by decide) h2
  refine x_istore dL_leaves_150 (by decide) ?_
  show JX _ _ _ _ _ _ _ _ _ _ _ [_, _, _, _, _, _, _, _] _ _
  refine x_iload dL_leaves_152 rfl ?_
  refine x_if_le (tgt := 191) dL_leaves_154 (by decide) ⟨by omega, by omega⟩ (fun h => absurd h (by omega)) (fun hb154 => ?_)
  refine x_iload dL_leaves_157 rfl ?_
  refine x_ldc (e := -100000003) dL_leaves_159 ct_RL_59 (by decide) ?_
  refine x_ic_ne (tgt := 189) dL_leaves_161 (by decide) ⟨by omega, by omega⟩ ⟨by omega, by omega⟩ (fun h => absurd h (by omega)) (fun hb161 => ?_)
  refine x_aload_n dL_leaves_164 rfl ?_
  refine x_bipush dL_leaves_165 (by decide) ?_
  refine c_RL_18d dL_leaves_167 rfl (tn_7 hP2 ht2) bk (Nat.le_of_ble_eq_true rfl) (Nat.le_of_ble_eq_true rfl) ⟨Nat.le_refl _, Nat.le_refl _⟩ ?_
  refine x_iload dL_leaves_170 rfl ?_
  refine x_ic_ne (tgt := 189) dL_leaves_172 (by decide) ⟨by omega, by omega⟩ ⟨by omega, by omega⟩ (fun h => absurd h (by omega)) (fun hb172 => ?_)
  refine x_aload_n dL_leaves_175 rfl ?_
  refine x_iload_n dL_leaves_176 rfl ?_
  refine x_iconst dL_leaves_177 ?_
  refine c_RL_15d dL_leaves_178 rfl (tc_3 hP2 ht2 hc) bk (Nat.le_of_ble_eq_true rfl) (Nat.le_of_ble_eq_true rfl) ⟨Nat.le_refl _, Nat.le_refl _⟩ ?_
  refine x_iload_n dL_leaves_181 rfl ?_
  refine x_ic_ne (tgt := 189) dL_leaves_182 (by decide) ⟨by omega, by omega⟩ ⟨by omega, by omega⟩ (fun h => absurd h (by omega)) (fun hb182 => ?_)
  refine x_iconst dL_leaves_185 ?_
  refine x_goto (tgt := 190) dL_leaves_186 (by decide) ?_
  exact x_ireturn dL_leaves_190 rfl (jbool (by first | exact Or.inl rfl | exact Or.inr rfl)).1 ⟨Nat.le_refl _, Nat.le_refl _⟩ ⟨rfl, _, rfl, rfl, _, _, _, _, hP2, hE, rfl, rfl⟩
theorem leaves_117 {G : JG} {S : JS} {D : JD} {d : Nat} {X t n q : Int} {hs : Int → Int → Int} {r : Int → Int} {e : Int} {c : Int} (hP : pSt S D X t n hs r q) (hE : pIn e r) (t0 : 0 ≤ t) (ht2 : t + 100 ≤ 60000) (hc : 0 ≤ c ∧ c < r 1) (h2 : ¬ r (29 + 11 * c) ≠ 1) (h4 : ¬ r (161 + 13 * c) = 0) (h5 : ¬ gAgr r (sNext r c 1)) (h7 : gDeep r (sNext r c 1) c 1) (hn : r (161 + 13 * c) = 1) : JM G yL_leaves cL_leaves 8 (some .boolean) (d + 7) (0, 0) S D [.inr (.inr (some X)), .inl c, .inl 1] (jOK S X (t + 100) e (r 1) (r 2)) := by
  have ht : t ≤ 60000 := by omega
  have hB := hP.1
  have bk := hB.1
  have hI := hP.2.1.2.2.2.1
  have b1 := hI.1
  obtain ⟨c4, ln0, ln1, lf0, lf1, gt, s0, s1, s2, s3, sg, v0, v1, w0, w1, f0, f1, k0, k1, kk, a0, a1, g0, g1⟩ := hI.cB ht hc
  have hg : (1 : Int) = 0 ∨ (1 : Int) = 1 := by omega
  have sgg := sg 1 hg
  obtain ⟨x0, x1, xp⟩ := hI.next (g := 1) hc.1 hc.2 (by omega)
  have hk : 0 ≤ sNext r c 1 ∧ sNext r c 1 < r 2 := ⟨x0, x1⟩
  obtain ⟨bk0, q0, q1, q2, q3, q4, q5, q6, q7, q8, q9, q10, q11, bp, q13, q14, q15, q16, q17, q18⟩ := hI.bB ht hk
  have nx : r (162 + 13 * c + (sCn r (100 + c) - 1)) = sNext r c 1 := by
    unfold sNext
    rw [if_neg (by decide), kk]; congr 1; omega
  have ta := tA_n h5
  have h7b : sLv r (100 + c) - sHg r c 1 - r 3 < sDr r (sNext r c 1) := h7
  have hz : zLeave c 1 r = (-100000003, none, 7) := by unfold zLeave; rw [if_pos ⟨hc, hg⟩, if_neg h2, if_neg h4, if_neg h5, if_pos h7]
  show JX _ _ _ _ _ _ _ _ _ _ _ [_, _, _, _, _, _, _, _] _ _
  refine x_aload_n dL_leaves_0 rfl ?_
  refine x_iload_n dL_leaves_1 rfl ?_
  refine x_iconst dL_leaves_2 ?_
  refine c_RL_15d dL_leaves_3 rfl (tc_3 hP ht hc) bk (Nat.le_of_ble_eq_true rfl) (Nat.le_of_ble_eq_true rfl) ⟨Nat.le_refl _, Nat.le_refl _⟩ ?_
  refine x_istore_n dL_leaves_6 (by decide) ?_
  show JX _ _ _ _ _ _ _ _ _ _ _ [_, _, _, _, _, _, _, _] _ _
  refine x_iload_n dL_leaves_7 rfl ?_
  refine x_if_ne (tgt := 15) dL_leaves_8 (by decide) ⟨by omega, by omega⟩ (fun hb8 => ?_) (fun h => (h (by omega)).elim)
  refine x_aload_n dL_leaves_15 rfl ?_
  refine x_iload_n dL_leaves_16 rfl ?_
  refine x_iload_n dL_leaves_17 rfl ?_
  refine x_if_ne (tgt := 25) dL_leaves_18 (by decide) ⟨by omega, by omega⟩ (fun hb18 => ?_) (fun h => (h (by omega)).elim)
  refine x_iload_n dL_leaves_25 rfl ?_
  refine x_iconst dL_leaves_26 ?_
  refine x_isub dL_leaves_27 ?_
  refine c_RL_38d dL_leaves_28 rfl (tl_y hP ht hc ⟨by omega, by omega⟩ ⟨by omega, by omega⟩) bk (Nat.le_of_ble_eq_true rfl) (Nat.le_of_ble_eq_true rfl) ⟨Nat.le_refl _, Nat.le_refl _⟩ ?_
  rw [nx]
  refine x_istore dL_leaves_31 (by decide) ?_
  show JX _ _ _ _ _ _ _ _ _ _ _ [_, _, _, _, _, _, _, _] _ _
  refine x_iload_n dL_leaves_33 rfl ?_
  refine x_iconst dL_leaves_34 ?_
  refine x_ic_ge (tgt := 43) dL_leaves_35 (by decide) ⟨by omega, by omega⟩ ⟨by omega, by omega⟩ (fun h => absurd h (by omega)) (fun hb35 => ?_)
  refine x_ldc (e := -100000005) dL_leaves_38 ct_RL_41 (by decide) ?_
  refine x_goto (tgt := 62) dL_leaves_40 (by decide) ?_
  refine x_istore dL_leaves_62 (by decide) ?_
  show JX _ _ _ _ _ _ _ _ _ _ _ [_, _, _, _, _, _, _, _] _ _
  refine x_aload_n dL_leaves_64 rfl ?_
  refine x_iload_n dL_leaves_65 rfl ?_
  refine x_bipush dL_leaves_66 (by decide) ?_
  refine c_RL_15d dL_leaves_68 rfl (tc_8 hP ht hc) bk (Nat.le_of_ble_eq_true rfl) (Nat.le_of_ble_eq_true rfl) ⟨Nat.le_refl _, Nat.le_refl _⟩ ?_
  refine x_iload_n dL_leaves_71 rfl ?_
  refine x_ic_eq (tgt := 79) dL_leaves_72 (by decide) ⟨by omega, by omega⟩ ⟨by omega, by omega⟩ (fun hb72 => ?_) (fun h => (h (by omega)).elim)
  refine x_iload_n dL_leaves_79 rfl ?_
  refine x_if_ne (tgt := 87) dL_leaves_80 (by decide) ⟨by omega, by omega⟩ (fun hb80 => ?_) (fun h => (h (by omega)).elim)
  refine x_aload_n dL_leaves_87 rfl ?_
  refine x_iload dL_leaves_88 rfl ?_
  refine x_bipush dL_leaves_90 (by decide) ?_
  refine c_RL_22d dL_leaves_92 rfl (tb_6 hP ht hk) bk (Nat.le_of_ble_eq_true rfl) (Nat.le_of_ble_eq_true rfl) ⟨Nat.le_refl _, Nat.le_refl _⟩ ?_
  rw [ta]
  refine x_iconst dL_leaves_95 ?_
  refine x_ic_ne (tgt := 103) dL_leaves_96 (by decide) ⟨by omega, by omega⟩ ⟨by omega, by omega⟩ (fun hb96 => ?_) (fun h => (h (by omega)).elim)
  refine x_aload_n dL_leaves_103 rfl ?_
  refine x_iload_n dL_leaves_104 rfl ?_
  refine x_iconst dL_leaves_105 ?_
  refine c_RL_15d dL_leaves_106 rfl (tc_0 hP ht hc) bk (Nat.le_of_ble_eq_true rfl) (Nat.le_of_ble_eq_true rfl) ⟨Nat.le_refl _, Nat.le_refl _⟩ ?_
  refine x_aload_n dL_leaves_109 rfl ?_
  refine x_iload_n dL_leaves_110 rfl ?_
  refine x_bipush dL_leaves_111 (by decide) ?_
  refine x_iload_n dL_leaves_113 rfl ?_
  refine x_iadd dL_leaves_114 ?_
  refine c_RL_15d dL_leaves_115 rfl (tc_s (g := 1) hP ht hc hg) bk (Nat.le_of_ble_eq_true rfl) (Nat.le_of_ble_eq_true rfl) ⟨Nat.le_refl _, Nat.le_refl _⟩ ?_
  refine x_isub dL_leaves_118 ?_
  refine x_aload_n dL_leaves_119 rfl ?_
  refine x_iload dL_leaves_120 rfl ?_
  refine x_iconst dL_leaves_122 ?_
  refine c_RL_22d dL_leaves_123 rfl (tb_2 hP ht hk) bk (Nat.le_of_ble_eq_true rfl) (Nat.le_of_ble_eq_true rfl) ⟨Nat.le_refl _, Nat.le_refl _⟩ ?_
  refine x_aload_n dL_leaves_126 rfl ?_
  refine x_bipush dL_leaves_127 (by decide) ?_
  refine c_RL_18d dL_leaves_129 rfl (tn_6 hP ht) bk (Nat.le_of_ble_eq_true rfl) (Nat.le_of_ble_eq_true rfl) ⟨Nat.le_refl _, Nat.le_refl _⟩ ?_
  refine x_iadd dL_leaves_132 ?_
  refine x_ic_ge (tgt := 141) dL_leaves_133 (by decide) ⟨by omega, by omega⟩ ⟨by omega, by omega⟩ (fun h => absurd h (by omega)) (fun hb133 => ?_)
  refine x_bipush dL_leaves_136 (by decide) ?_
  refine x_goto (tgt := 142) dL_leaves_138 (by decide) ?_
  refine x_istore dL_leaves_142 (by decide) ?_
  show JX _ _ _ _ _ _ _ _ _ _ _ [_, _, _, _, _, _, _, _] _ _
  refine x_aload_n dL_leaves_144 rfl ?_
  refine x_iload_n dL_leaves_145 rfl ?_
  refine x_iload_n dL_leaves_146 rfl ?_
  refine c_RL_69p dL_leaves_147 rfl (kX7_leave hP.1 (Or.inl rfl) hP.2.1 ht2 ⟨by omega, by omega⟩ ⟨by omega, by omega⟩) bk (Nat.le_of_ble_eq_true rfl) (Nat.le_of_ble_eq_true rfl) ⟨Nat.le_refl _, Nat.le_refl _⟩ (fun w2 D2 h2 => ?_)
  obtain ⟨rfl, hP2⟩ := hP.ref hz (by decide) h2
  refine x_istore dL_leaves_150 (by decide) ?_
  show JX _ _ _ _ _ _ _ _ _ _ _ [_, _, _, _, _, _, _, _] _ _
  refine x_iload dL_leaves_152 rfl ?_
  refine x_if_le (tgt := 191) dL_leaves_154 (by decide) ⟨by omega, by omega⟩ (fun h => absurd h (by omega)) (fun hb154 => ?_)
  refine x_iload dL_leaves_157 rfl ?_
  refine x_ldc (e := -100000003) dL_leaves_159 ct_RL_59 (by decide) ?_
  refine x_ic_ne (tgt := 189) dL_leaves_161 (by decide) ⟨by omega, by omega⟩ ⟨by omega, by omega⟩ (fun h => absurd h (by omega)) (fun hb161 => ?_)
  refine x_aload_n dL_leaves_164 rfl ?_
  refine x_bipush dL_leaves_165 (by decide) ?_
  refine c_RL_18d dL_leaves_167 rfl (tn_7 hP2 ht2) bk (Nat.le_of_ble_eq_true rfl) (Nat.le_of_ble_eq_true rfl) ⟨Nat.le_refl _, Nat.le_refl _⟩ ?_
  refine x_iload dL_leaves_170 rfl ?_
  refine x_ic_ne (tgt := 189) dL_leaves_172 (by decide) ⟨by omega, by omega⟩ ⟨by omega, by omega⟩ (fun h => absurd h (by omega)) (fun hb172 => ?_)
  refine x_aload_n dL_leaves_175 rfl ?_
  refine x_iload_n dL_leaves_176 rfl ?_
  refine x_iconst dL_leaves_177 ?_
  refine c_RL_15d dL_leaves_178 rfl (tc_3 hP2 ht2 hc) bk (Nat.le_of_ble_eq_true rfl) (Nat.le_of_ble_eq_true rfl) ⟨Nat.le_refl _, Nat.le_refl _⟩ ?_
  refine x_iload_n dL_leaves_181 rfl ?_
  refine x_ic_ne (tgt := 189) dL_leaves_182 (by decide) ⟨by omega, by omega⟩ ⟨by omega, by omega⟩ (fun h => absurd h (by omega)) (fun hb182 => ?_)
  refine x_iconst dL_leaves_185 ?_
  refine x_goto (tgt := 190) dL_leaves_186 (by decide) ?_
  exact x_ireturn dL_leaves_190 rfl (jbool (by first | exact Or.inl rfl | exact Or.inr rfl)).1 ⟨Nat.le_refl _, Nat.le_refl _⟩ ⟨rfl, _, rfl, rfl, _, _, _, _, hP2, hE, rfl, rfl⟩
theorem leaves_110 {G : JG} {S : JS} {D : JD} {d : Nat} {X t n q : Int} {hs : Int → Int → Int} {r : Int → Int} {e : Int} {c : Int} (hP : pSt S D X t n hs r q) (hE : pIn e r) (t0 : 0 ≤ t) (ht2 : t + 100 ≤ 60000) (hc : 0 ≤ c ∧ c < r 1) (h2 : ¬ r (29 + 11 * c) ≠ 1) (h4 : ¬ r (161 + 13 * c) = 0) (h5 : ¬ gAgr r (sNext r c 1)) (h7 : ¬ gDeep r (sNext r c 1) c 1) (hn : r (161 + 13 * c) = 1) : JM G yL_leaves cL_leaves 8 (some .boolean) (d + 7) (0, 0) S D [.inr (.inr (some X)), .inl c, .inl 1] (jOK S X (t + 100) e (r 1) (r 2)) := by
  have ht : t ≤ 60000 := by omega
  have hB := hP.1
  have bk := hB.1
  have hI := hP.2.1.2.2.2.1
  have b1 := hI.1
  obtain ⟨c4, ln0, ln1, lf0, lf1, gt, s0, s1, s2, s3, sg, v0, v1, w0, w1, f0, f1, k0, k1, kk, a0, a1, g0, g1⟩ := hI.cB ht hc
  have hg : (1 : Int) = 0 ∨ (1 : Int) = 1 := by omega
  have sgg := sg 1 hg
  obtain ⟨x0, x1, xp⟩ := hI.next (g := 1) hc.1 hc.2 (by omega)
  have hk : 0 ≤ sNext r c 1 ∧ sNext r c 1 < r 2 := ⟨x0, x1⟩
  obtain ⟨bk0, q0, q1, q2, q3, q4, q5, q6, q7, q8, q9, q10, q11, bp, q13, q14, q15, q16, q17, q18⟩ := hI.bB ht hk
  have nx : r (162 + 13 * c + (sCn r (100 + c) - 1)) = sNext r c 1 := by
    unfold sNext
    rw [if_neg (by decide), kk]; congr 1; omega
  have ta := tA_n h5
  have h7b : ¬ sLv r (100 + c) - sHg r c 1 - r 3 < sDr r (sNext r c 1) := h7
  have hz : zLeave c 1 r = (sNext r c 1, some (rLeave (sNext r c 1) c 1 r), 0) := by unfold zLeave; rw [if_pos ⟨hc, hg⟩, if_neg h2, if_neg h4, if_neg h5, if_neg h7]
  obtain ⟨hI3, of, k1a, k2a, m71, m161, m0⟩ := leave_nums hI hc hg h4
  have hE3 := (hE.off hI of).all hI3
  have hc2 : 0 ≤ c ∧ c < sAll (rLeave (sNext r c 1) c 1 r) 1 := ⟨hc.1, by omega⟩
  have hk2 : 0 ≤ sNext r c 1 ∧ sNext r c 1 < sAll (rLeave (sNext r c 1) c 1 r) 2 := ⟨x0, by omega⟩
  show JX _ _ _ _ _ _ _ _ _ _ _ [_, _, _, _, _, _, _, _] _ _
  refine x_aload_n dL_leaves_0 rfl ?_
  refine x_iload_n dL_leaves_1 rfl ?_
  refine x_iconst dL_leaves_2 ?_
  refine c_RL_15d dL_leaves_3 rfl (tc_3 hP ht hc) bk (Nat.le_of_ble_eq_true rfl) (Nat.le_of_ble_eq_true rfl) ⟨Nat.le_refl _, Nat.le_refl _⟩ ?_
  refine x_istore_n dL_leaves_6 (by decide) ?_
  show JX _ _ _ _ _ _ _ _ _ _ _ [_, _, _, _, _, _, _, _] _ _
  refine x_iload_n dL_leaves_7 rfl ?_
  refine x_if_ne (tgt := 15) dL_leaves_8 (by decide) ⟨by omega, by omega⟩ (fun hb8 => ?_) (fun h => (h (by omega)).elim)
  refine x_aload_n dL_leaves_15 rfl ?_
  refine x_iload_n dL_leaves_16 rfl ?_
  refine x_iload_n dL_leaves_17 rfl ?_
  refine x_if_ne (tgt := 25) dL_leaves_18 (by decide) ⟨by omega, by omega⟩ (fun hb18 => ?_) (fun h => (h (by omega)).elim)
  refine x_iload_n dL_leaves_25 rfl ?_
  refine x_iconst dL_leaves_26 ?_
  refine x_isub dL_leaves_27 ?_
  refine c_RL_38d dL_leaves_28 rfl (tl_y hP ht hc ⟨by omega, by omega⟩ ⟨by omega, by omega⟩) bk (Nat.le_of_ble_eq_true rfl) (Nat.le_of_ble_eq_true rfl) ⟨Nat.le_refl _, Nat.le_refl _⟩ ?_
  rw [nx]
  refine x_istore dL_leaves_31 (by decide) ?_
  show JX _ _ _ _ _ _ _ _ _ _ _ [_, _, _, _, _, _, _, _] _ _
  refine x_iload_n dL_leaves_33 rfl ?_
  refine x_iconst dL_leaves_34 ?_
  refine x_ic_ge (tgt := 43) dL_leaves_35 (by decide) ⟨by omega, by omega⟩ ⟨by omega, by omega⟩ (fun h => absurd h (by omega)) (fun hb35 => ?_)
  refine x_ldc (e := -100000005) dL_leaves_38 ct_RL_41 (by decide) ?_
  refine x_goto (tgt := 62) dL_leaves_40 (by decide) ?_
  refine x_istore dL_leaves_62 (by decide) ?_
  show JX _ _ _ _ _ _ _ _ _ _ _ [_, _, _, _, _, _, _, _] _ _
  refine x_aload_n dL_leaves_64 rfl ?_
  refine x_iload_n dL_leaves_65 rfl ?_
  refine x_bipush dL_leaves_66 (by decide) ?_
  refine c_RL_15d dL_leaves_68 rfl (tc_8 hP ht hc) bk (Nat.le_of_ble_eq_true rfl) (Nat.le_of_ble_eq_true rfl) ⟨Nat.le_refl _, Nat.le_refl _⟩ ?_
  refine x_iload_n dL_leaves_71 rfl ?_
  refine x_ic_eq (tgt := 79) dL_leaves_72 (by decide) ⟨by omega, by omega⟩ ⟨by omega, by omega⟩ (fun hb72 => ?_) (fun h => (h (by omega)).elim)
  refine x_iload_n dL_leaves_79 rfl ?_
  refine x_if_ne (tgt := 87) dL_leaves_80 (by decide) ⟨by omega, by omega⟩ (fun hb80 => ?_) (fun h => (h (by omega)).elim)
  refine x_aload_n dL_leaves_87 rfl ?_
  refine x_iload dL_leaves_88 rfl ?_
  refine x_bipush dL_leaves_90 (by decide) ?_
  refine c_RL_22d dL_leaves_92 rfl (tb_6 hP ht hk) bk (Nat.le_of_ble_eq_true rfl) (Nat.le_of_ble_eq_true rfl) ⟨Nat.le_refl _, Nat.le_refl _⟩ ?_
  rw [ta]
  refine x_iconst dL_leaves_95 ?_
  refine x_ic_ne (tgt := 103) dL_leaves_96 (by decide) ⟨by omega, by omega⟩ ⟨by omega, by omega⟩ (fun hb96 => ?_) (fun h => (h (by omega)).elim)
  refine x_aload_n dL_leaves_103 rfl ?_
  refine x_iload_n dL_leaves_104 rfl ?_
  refine x_iconst dL_leaves_105 ?_
  refine c_RL_15d dL_leaves_106 rfl (tc_0 hP ht hc) bk (Nat.le_of_ble_eq_true rfl) (Nat.le_of_ble_eq_true rfl) ⟨Nat.le_refl _, Nat.le_refl _⟩ ?_
  refine x_aload_n dL_leaves_109 rfl ?_
  refine x_iload_n dL_leaves_110 rfl ?_
  refine x_bipush dL_leaves_111 (by decide) ?_
  refine x_iload_n dL_leaves_113 rfl ?_
  refine x_iadd dL_leaves_114 ?_
  refine c_RL_15d dL_leaves_115 rfl (tc_s (g := 1) hP ht hc hg) bk (Nat.le_of_ble_eq_true rfl) (Nat.le_of_ble_eq_true rfl) ⟨Nat.le_refl _, Nat.le_refl _⟩ ?_
  refine x_isub dL_leaves_118 ?_
  refine x_aload_n dL_leaves_119 rfl ?_
  refine x_iload dL_leaves_120 rfl ?_
  refine x_iconst dL_leaves_122 ?_
  refine c_RL_22d dL_leaves_123 rfl (tb_2 hP ht hk) bk (Nat.le_of_ble_eq_true rfl) (Nat.le_of_ble_eq_true rfl) ⟨Nat.le_refl _, Nat.le_refl _⟩ ?_
  refine x_aload_n dL_leaves_126 rfl ?_
  refine x_bipush dL_leaves_127 (by decide) ?_
  refine c_RL_18d dL_leaves_129 rfl (tn_6 hP ht) bk (Nat.le_of_ble_eq_true rfl) (Nat.le_of_ble_eq_true rfl) ⟨Nat.le_refl _, Nat.le_refl _⟩ ?_
  refine x_iadd dL_leaves_132 ?_
  refine x_ic_ge (tgt := 141) dL_leaves_133 (by decide) ⟨by omega, by omega⟩ ⟨by omega, by omega⟩ (fun hb133 => ?_) (fun h => (h (by omega)).elim)
  refine x_iconst dL_leaves_141 ?_
  refine x_istore dL_leaves_142 (by decide) ?_
  show JX _ _ _ _ _ _ _ _ _ _ _ [_, _, _, _, _, _, _, _] _ _
  refine x_aload_n dL_leaves_144 rfl ?_
  refine x_iload_n dL_leaves_145 rfl ?_
  refine x_iload_n dL_leaves_146 rfl ?_
  refine c_RL_69p dL_leaves_147 rfl (kX7_leave hP.1 (Or.inl rfl) hP.2.1 ht2 ⟨by omega, by omega⟩ ⟨by omega, by omega⟩) bk (Nat.le_of_ble_eq_true rfl) (Nat.le_of_ble_eq_true rfl) ⟨Nat.le_refl _, Nat.le_refl _⟩ (fun w2 D2 h2 => ?_)
  obtain ⟨rfl, hP2⟩ := hP.some hz h2
  have hI2 := hP2.2.1.2.2.2.1
  have cB2 := hI2.line hc2.1 hc2.2
  refine x_istore dL_leaves_150 (by decide) ?_
  show JX _ _ _ _ _ _ _ _ _ _ _ [_, _, _, _, _, _, _, _] _ _
  refine x_iload dL_leaves_152 rfl ?_
  refine x_if_le (tgt := 191) dL_leaves_154 (by decide) ⟨by omega, by omega⟩ (fun hb154 => ?_) (fun h => (h (by omega)).elim)
  refine x_iload dL_leaves_191 rfl ?_
  refine x_iload dL_leaves_193 rfl ?_
  refine x_ic_ne (tgt := 239) dL_leaves_195 (by decide) ⟨by omega, by omega⟩ ⟨by omega, by omega⟩ (fun h => absurd h (by omega)) (fun hb195 => ?_)
  refine x_aload_n dL_leaves_198 rfl ?_
  refine x_iload dL_leaves_199 rfl ?_
  refine x_bipush dL_leaves_201 (by decide) ?_
  refine c_RL_22d dL_leaves_203 rfl (tb_7 hP2 ht2 hk2) bk (Nat.le_of_ble_eq_true rfl) (Nat.le_of_ble_eq_true rfl) ⟨Nat.le_refl _, Nat.le_refl _⟩ ?_
  rw [m71]
  refine x_iload_n dL_leaves_206 rfl ?_
  refine x_iload_n dL_leaves_207 rfl ?_
  refine x_iadd dL_leaves_208 ?_
  refine x_ic_ne (tgt := 239) dL_leaves_209 (by decide) ⟨by omega, by omega⟩ ⟨by omega, by omega⟩ (fun h => absurd h (by omega)) (fun hb209 => ?_)
  refine x_aload_n dL_leaves_212 rfl ?_
  refine x_iload_n dL_leaves_213 rfl ?_
  refine x_iconst dL_leaves_214 ?_
  refine c_RL_15d dL_leaves_215 rfl (tc_3 hP2 ht2 hc2) bk (Nat.le_of_ble_eq_true rfl) (Nat.le_of_ble_eq_true rfl) ⟨Nat.le_refl _, Nat.le_refl _⟩ ?_
  refine x_iload_n dL_leaves_218 rfl ?_
  refine x_iconst dL_leaves_219 ?_
  refine x_isub dL_leaves_220 ?_
  refine x_ic_ne (tgt := 239) dL_leaves_221 (by decide) ⟨by omega, by omega⟩ ⟨by omega, by omega⟩ (fun h => absurd h (by omega)) (fun hb221 => ?_)
  refine x_aload_n dL_leaves_224 rfl ?_
  refine x_iload_n dL_leaves_225 rfl ?_
  refine x_iconst dL_leaves_226 ?_
  refine c_RL_38d dL_leaves_227 rfl (tl_n hP2 ht2 hc2 ⟨by omega, by omega⟩ ⟨by omega, by omega⟩) bk (Nat.le_of_ble_eq_true rfl) (Nat.le_of_ble_eq_true rfl) ⟨Nat.le_refl _, Nat.le_refl _⟩ ?_
  refine x_iload dL_leaves_230 rfl ?_
  refine x_ic_ne (tgt := 239) dL_leaves_232 (by decide) ⟨by omega, by omega⟩ ⟨by omega, by omega⟩ (fun h => absurd h (by omega)) (fun hb232 => ?_)
  refine x_iconst dL_leaves_235 ?_
  refine x_goto (tgt := 240) dL_leaves_236 (by decide) ?_
  exact x_ireturn dL_leaves_240 rfl (jbool (by first | exact Or.inl rfl | exact Or.inr rfl)).1 ⟨Nat.le_refl _, Nat.le_refl _⟩ ⟨rfl, _, rfl, rfl, _, _, _, _, hP2, hE3, k1a, k2a⟩
theorem leaves_122 {G : JG} {S : JS} {D : JD} {d : Nat} {X t n q : Int} {hs : Int → Int → Int} {r : Int → Int} {e : Int} {c : Int} (hP : pSt S D X t n hs r q) (hE : pIn e r) (t0 : 0 ≤ t) (ht2 : t + 100 ≤ 60000) (hc : 0 ≤ c ∧ c < r 1) (h2 : r (29 + 11 * c) ≠ 1) (hn : 2 ≤ r (161 + 13 * c)) : JM G yL_leaves cL_leaves 8 (some .boolean) (d + 7) (0, 0) S D [.inr (.inr (some X)), .inl c, .inl 1] (jOK S X (t + 100) e (r 1) (r 2)) := by
  have ht : t ≤ 60000 := by omega
  have hB := hP.1
  have bk := hB.1
  have hI := hP.2.1.2.2.2.1
  have b1 := hI.1
  obtain ⟨c4, ln0, ln1, lf0, lf1, gt, s0, s1, s2, s3, sg, v0, v1, w0, w1, f0, f1, k0, k1, kk, a0, a1, g0, g1⟩ := hI.cB ht hc
  have hg : (1 : Int) = 0 ∨ (1 : Int) = 1 := by omega
  have sgg := sg 1 hg
  obtain ⟨x0, x1, xp⟩ := hI.next (g := 1) hc.1 hc.2 (by omega)
  have hk : 0 ≤ sNext r c 1 ∧ sNext r c 1 < r 2 := ⟨x0, x1⟩
  obtain ⟨bk0, q0, q1, q2, q3, q4, q5, q6, q7, q8, q9, q10, q11, bp, q13, q14, q15, q16, q17, q18⟩ := hI.bB ht hk
  have nx : r (162 + 13 * c + (sCn r (100 + c) - 1)) = sNext r c 1 := by
    unfold sNext
    rw [if_neg (by decide), kk]; congr 1; omega
  have l2 := (hI.lines hc.1 hc.2).1 0 (by omega) (by omega)
  have hz : zLeave c 1 r = (-100000003, none, 2) := by unfold zLeave; rw [if_pos ⟨hc, hg⟩, if_pos h2]
  show JX _ _ _ _ _ _ _ _ _ _ _ [_, _, _, _, _, _, _, _] _ _
  refine x_aload_n dL_leaves_0 rfl ?_
  refine x_iload_n dL_leaves_1 rfl ?_
  refine x_iconst dL_leaves_2 ?_
  refine c_RL_15d dL_leaves_3 rfl (tc_3 hP ht hc) bk (Nat.le_of_ble_eq_true rfl) (Nat.le_of_ble_eq_true rfl) ⟨Nat.le_refl _, Nat.le_refl _⟩ ?_
  refine x_istore_n dL_leaves_6 (by decide) ?_
  show JX _ _ _ _ _ _ _ _ _ _ _ [_, _, _, _, _, _, _, _] _ _
  refine x_iload_n dL_leaves_7 rfl ?_
  refine x_if_ne (tgt := 15) dL_leaves_8 (by decide) ⟨by omega, by omega⟩ (fun hb8 => ?_) (fun h => (h (by omega)).elim)
  refine x_aload_n dL_leaves_15 rfl ?_
  refine x_iload_n dL_leaves_16 rfl ?_
  refine x_iload_n dL_leaves_17 rfl ?_
  refine x_if_ne (tgt := 25) dL_leaves_18 (by decide) ⟨by omega, by omega⟩ (fun hb18 => ?_) (fun h => (h (by omega)).elim)
  refine x_iload_n dL_leaves_25 rfl ?_
  refine x_iconst dL_leaves_26 ?_
  refine x_isub dL_leaves_27 ?_
  refine c_RL_38d dL_leaves_28 rfl (tl_y hP ht hc ⟨by omega, by omega⟩ ⟨by omega, by omega⟩) bk (Nat.le_of_ble_eq_true rfl) (Nat.le_of_ble_eq_true rfl) ⟨Nat.le_refl _, Nat.le_refl _⟩ ?_
  rw [nx]
  refine x_istore dL_leaves_31 (by decide) ?_
  show JX _ _ _ _ _ _ _ _ _ _ _ [_, _, _, _, _, _, _, _] _ _
  refine x_iload_n dL_leaves_33 rfl ?_
  refine x_iconst dL_leaves_34 ?_
  refine x_ic_ge (tgt := 43) dL_leaves_35 (by decide) ⟨by omega, by omega⟩ ⟨by omega, by omega⟩ (fun hb35 => ?_) (fun h => (h (by omega)).elim)
  refine x_iload_n dL_leaves_43 rfl ?_
  refine x_if_ne (tgt := 56) dL_leaves_44 (by decide) ⟨by omega, by omega⟩ (fun hb44 => ?_) (fun h => (h (by omega)).elim)
  refine x_aload_n dL_leaves_56 rfl ?_
  refine x_iload_n dL_leaves_57 rfl ?_
  refine x_iconst dL_leaves_58 ?_
  refine c_RL_38d dL_leaves_59 rfl (tl_y hP ht hc ⟨by omega, by omega⟩ ⟨by omega, by omega⟩) bk (Nat.le_of_ble_eq_true rfl) (Nat.le_of_ble_eq_true rfl) ⟨Nat.le_refl _, Nat.le_refl _⟩ ?_
  refine x_istore dL_leaves_62 (by decide) ?_
  show JX _ _ _ _ _ _ _ _ _ _ _ [_, _, _, _, _, _, _, _] _ _
  refine x_aload_n dL_leaves_64 rfl ?_
  refine x_iload_n dL_leaves_65 rfl ?_
  refine x_bipush dL_leaves_66 (by decide) ?_
  refine c_RL_15d dL_leaves_68 rfl (tc_8 hP ht hc) bk (Nat.le_of_ble_eq_true rfl) (Nat.le_of_ble_eq_true rfl) ⟨Nat.le_refl _, Nat.le_refl _⟩ ?_
  refine x_iload_n dL_leaves_71 rfl ?_
  refine x_ic_eq (tgt := 79) dL_leaves_72 (by decide) ⟨by omega, by omega⟩ ⟨by omega, by omega⟩ (fun h => absurd h (by omega)) (fun hb72 => ?_)
  refine x_iconst dL_leaves_75 ?_
  refine x_goto (tgt := 142) dL_leaves_76 (by decide) ?_
  refine x_istore dL_leaves_142 (by decide) ?_
  show JX _ _ _ _ _ _ _ _ _ _ _ [_, _, _, _, _, _, _, _] _ _
  refine x_aload_n dL_leaves_144 rfl ?_
  refine x_iload_n dL_leaves_145 rfl ?_
  refine x_iload_n dL_leaves_146 rfl ?_
  refine c_RL_69p dL_leaves_147 rfl (kX7_leave hP.1 (Or.inl rfl) hP.2.1 ht2 ⟨by omega, by omega⟩ ⟨by omega, by omega⟩) bk (Nat.le_of_ble_eq_true rfl) (Nat.le_of_ble_eq_true rfl) ⟨Nat.le_refl _, Nat.le_refl _⟩ (fun w2 D2 h2 => ?_)
  obtain ⟨rfl, hP2⟩ := hP.ref hz (by decide) h2
  refine x_istore dL_leaves_150 (by decide) ?_
  show JX _ _ _ _ _ _ _ _ _ _ _ [_, _, _, _, _, _, _, _] _ _
  refine x_iload dL_leaves_152 rfl ?_
  refine x_if_le (tgt := 191) dL_leaves_154 (by decide) ⟨by omega, by omega⟩ (fun h => absurd h (by omega)) (fun hb154 => ?_)
  refine x_iload dL_leaves_157 rfl ?_
  refine x_ldc (e := -100000003) dL_leaves_159 ct_RL_59 (by decide) ?_
  refine x_ic_ne (tgt := 189) dL_leaves_161 (by decide) ⟨by omega, by omega⟩ ⟨by omega, by omega⟩ (fun h => absurd h (by omega)) (fun hb161 => ?_)
  refine x_aload_n dL_leaves_164 rfl ?_
  refine x_bipush dL_leaves_165 (by decide) ?_
  refine c_RL_18d dL_leaves_167 rfl (tn_7 hP2 ht2) bk (Nat.le_of_ble_eq_true rfl) (Nat.le_of_ble_eq_true rfl) ⟨Nat.le_refl _, Nat.le_refl _⟩ ?_
  refine x_iload dL_leaves_170 rfl ?_
  refine x_ic_ne (tgt := 189) dL_leaves_172 (by decide) ⟨by omega, by omega⟩ ⟨by omega, by omega⟩ (fun h => absurd h (by omega)) (fun hb172 => ?_)
  refine x_aload_n dL_leaves_175 rfl ?_
  refine x_iload_n dL_leaves_176 rfl ?_
  refine x_iconst dL_leaves_177 ?_
  refine c_RL_15d dL_leaves_178 rfl (tc_3 hP2 ht2 hc) bk (Nat.le_of_ble_eq_true rfl) (Nat.le_of_ble_eq_true rfl) ⟨Nat.le_refl _, Nat.le_refl _⟩ ?_
  refine x_iload_n dL_leaves_181 rfl ?_
  refine x_ic_ne (tgt := 189) dL_leaves_182 (by decide) ⟨by omega, by omega⟩ ⟨by omega, by omega⟩ (fun h => absurd h (by omega)) (fun hb182 => ?_)
  refine x_iconst dL_leaves_185 ?_
  refine x_goto (tgt := 190) dL_leaves_186 (by decide) ?_
  exact x_ireturn dL_leaves_190 rfl (jbool (by first | exact Or.inl rfl | exact Or.inr rfl)).1 ⟨Nat.le_refl _, Nat.le_refl _⟩ ⟨rfl, _, rfl, rfl, _, _, _, _, hP2, hE, rfl, rfl⟩
theorem leaves_125 {G : JG} {S : JS} {D : JD} {d : Nat} {X t n q : Int} {hs : Int → Int → Int} {r : Int → Int} {e : Int} {c : Int} (hP : pSt S D X t n hs r q) (hE : pIn e r) (t0 : 0 ≤ t) (ht2 : t + 100 ≤ 60000) (hc : 0 ≤ c ∧ c < r 1) (h2 : ¬ r (29 + 11 * c) ≠ 1) (h4 : ¬ r (161 + 13 * c) = 0) (h5 : gAgr r (sNext r c 1)) (hn : 2 ≤ r (161 + 13 * c)) : JM G yL_leaves cL_leaves 8 (some .boolean) (d + 7) (0, 0) S D [.inr (.inr (some X)), .inl c, .inl 1] (jOK S X (t + 100) e (r 1) (r 2)) := by
  have ht : t ≤ 60000 := by omega
  have hB := hP.1
  have bk := hB.1
  have hI := hP.2.1.2.2.2.1
  have b1 := hI.1
  obtain ⟨c4, ln0, ln1, lf0, lf1, gt, s0, s1, s2, s3, sg, v0, v1, w0, w1, f0, f1, k0, k1, kk, a0, a1, g0, g1⟩ := hI.cB ht hc
  have hg : (1 : Int) = 0 ∨ (1 : Int) = 1 := by omega
  have sgg := sg 1 hg
  obtain ⟨x0, x1, xp⟩ := hI.next (g := 1) hc.1 hc.2 (by omega)
  have hk : 0 ≤ sNext r c 1 ∧ sNext r c 1 < r 2 := ⟨x0, x1⟩
  obtain ⟨bk0, q0, q1, q2, q3, q4, q5, q6, q7, q8, q9, q10, q11, bp, q13, q14, q15, q16, q17, q18⟩ := hI.bB ht hk
  have nx : r (162 + 13 * c + (sCn r (100 + c) - 1)) = sNext r c 1 := by
    unfold sNext
    rw [if_neg (by decide), kk]; congr 1; omega
  have l2 := (hI.lines hc.1 hc.2).1 0 (by omega) (by omega)
  have ta := tA_y h5
  have hz : zLeave c 1 r = (-100000003, none, 5) := by unfold zLeave; rw [if_pos ⟨hc, hg⟩, if_neg h2, if_neg h4, if_pos h5]
  show JX _ _ _ _ _ _ _ _ _ _ _ [_, _, _, _, _, _, _, _] _ _
  refine x_aload_n dL_leaves_0 rfl ?_
  refine x_iload_n dL_leaves_1 rfl ?_
  refine x_iconst dL_leaves_2 ?_
  refine c_RL_15d dL_leaves_3 rfl (tc_3 hP ht hc) bk (Nat.le_of_ble_eq_true rfl) (Nat.le_of_ble_eq_true rfl) ⟨Nat.le_refl _, Nat.le_refl _⟩ ?_
  refine x_istore_n dL_leaves_6 (by decide) ?_
  show JX _ _ _ _ _ _ _ _ _ _ _ [_, _, _, _, _, _, _, _] _ _
  refine x_iload_n dL_leaves_7 rfl ?_
  refine x_if_ne (tgt := 15) dL_leaves_8 (by decide) ⟨by omega, by omega⟩ (fun hb8 => ?_) (fun h => (h (by omega)).elim)
  refine x_aload_n dL_leaves_15 rfl ?_
  refine x_iload_n dL_leaves_16 rfl ?_
  refine x_iload_n dL_leaves_17 rfl ?_
  refine x_if_ne (tgt := 25) dL_leaves_18 (by decide) ⟨by omega, by omega⟩ (fun hb18 => ?_) (fun h => (h (by omega)).elim)
  refine x_iload_n dL_leaves_25 rfl ?_
  refine x_iconst dL_leaves_26 ?_
  refine x_isub dL_leaves_27 ?_
  refine c_RL_38d dL_leaves_28 rfl (tl_y hP ht hc ⟨by omega, by omega⟩ ⟨by omega, by omega⟩) bk (Nat.le_of_ble_eq_true rfl) (Nat.le_of_ble_eq_true rfl) ⟨Nat.le_refl _, Nat.le_refl _⟩ ?_
  rw [nx]
  refine x_istore dL_leaves_31 (by decide) ?_
  show JX _ _ _ _ _ _ _ _ _ _ _ [_, _, _, _, _, _, _, _] _ _
  refine x_iload_n dL_leaves_33 rfl ?_
  refine x_iconst dL_leaves_34 ?_
  refine x_ic_ge (tgt := 43) dL_leaves_35 (by decide) ⟨by omega, by omega⟩ ⟨by omega, by omega⟩ (fun hb35 => ?_) (fun h => (h (by omega)).elim)
  refine x_iload_n dL_leaves_43 rfl ?_
  refine x_if_ne (tgt := 56) dL_leaves_44 (by decide) ⟨by omega, by omega⟩ (fun hb44 => ?_) (fun h => (h (by omega)).elim)
  refine x_aload_n dL_leaves_56 rfl ?_
  refine x_iload_n dL_leaves_57 rfl ?_
  refine x_iconst dL_leaves_58 ?_
  refine c_RL_38d dL_leaves_59 rfl (tl_y hP ht hc ⟨by omega, by omega⟩ ⟨by omega, by omega⟩) bk (Nat.le_of_ble_eq_true rfl) (Nat.le_of_ble_eq_true rfl) ⟨Nat.le_refl _, Nat.le_refl _⟩ ?_
  refine x_istore dL_leaves_62 (by decide) ?_
  show JX _ _ _ _ _ _ _ _ _ _ _ [_, _, _, _, _, _, _, _] _ _
  refine x_aload_n dL_leaves_64 rfl ?_
  refine x_iload_n dL_leaves_65 rfl ?_
  refine x_bipush dL_leaves_66 (by decide) ?_
  refine c_RL_15d dL_leaves_68 rfl (tc_8 hP ht hc) bk (Nat.le_of_ble_eq_true rfl) (Nat.le_of_ble_eq_true rfl) ⟨Nat.le_refl _, Nat.le_refl _⟩ ?_
  refine x_iload_n dL_leaves_71 rfl ?_
  refine x_ic_eq (tgt := 79) dL_leaves_72 (by decide) ⟨by omega, by omega⟩ ⟨by omega, by omega⟩ (fun hb72 => ?_) (fun h => (h (by omega)).elim)
  refine x_iload_n dL_leaves_79 rfl ?_
  refine x_if_ne (tgt := 87) dL_leaves_80 (by decide) ⟨by omega, by omega⟩ (fun hb80 => ?_) (fun h => (h (by omega)).elim)
  refine x_aload_n dL_leaves_87 rfl ?_
  refine x_iload dL_leaves_88 rfl ?_
  refine x_bipush dL_leaves_90 (by decide) ?_
  refine c_RL_22d dL_leaves_92 rfl (tb_6 hP ht hk) bk (Nat.le_of_ble_eq_true rfl) (Nat.le_of_ble_eq_true rfl) ⟨Nat.le_refl _, Nat.le_refl _⟩ ?_
  rw [ta]
  refine x_iconst dL_leaves_95 ?_
  refine x_ic_ne (tgt := 103) dL_leaves_96 (by decide) ⟨by omega, by omega⟩ ⟨by omega, by omega⟩ (fun h => absurd h (by omega)) (fun hb96 => ?_)
  refine x_iconst dL_leaves_99 ?_
  refine x_goto (tgt := 142) dL_leaves_100 (by decide) ?_
  refine x_istore dL_leaves_142 (by decide) ?_
  show JX _ _ _ _ _ _ _ _ _ _ _ [_, _, _, _, _, _, _, _] _ _
  refine x_aload_n dL_leaves_144 rfl ?_
  refine x_iload_n dL_leaves_145 rfl ?_
  refine x_iload_n dL_leaves_146 rfl ?_
  refine c_RL_69p dL_leaves_147 rfl (kX7_leave hP.1 (Or.inl rfl) hP.2.1 ht2 ⟨by omega, by omega⟩ ⟨by omega, by omega⟩) bk (Nat.le_of_ble_eq_true rfl) (Nat.le_of_ble_eq_true rfl) ⟨Nat.le_refl _, Nat.le_refl _⟩ (fun w2 D2 h2 => ?_)
  obtain ⟨rfl, hP2⟩ := hP.ref hz (by decide) h2
  refine x_istore dL_leaves_150 (by decide) ?_
  show JX _ _ _ _ _ _ _ _ _ _ _ [_, _, _, _, _, _, _, _] _ _
  refine x_iload dL_leaves_152 rfl ?_
  refine x_if_le (tgt := 191) dL_leaves_154 (by decide) ⟨by omega, by omega⟩ (fun h => absurd h (by omega)) (fun hb154 => ?_)
  refine x_iload dL_leaves_157 rfl ?_
  refine x_ldc (e := -100000003) dL_leaves_159 ct_RL_59 (by decide) ?_
  refine x_ic_ne (tgt := 189) dL_leaves_161 (by decide) ⟨by omega, by omega⟩ ⟨by omega, by omega⟩ (fun h => absurd h (by omega)) (fun hb161 => ?_)
  refine x_aload_n dL_leaves_164 rfl ?_
  refine x_bipush dL_leaves_165 (by decide) ?_
  refine c_RL_18d dL_leaves_167 rfl (tn_7 hP2 ht2) bk (Nat.le_of_ble_eq_true rfl) (Nat.le_of_ble_eq_true rfl) ⟨Nat.le_refl _, Nat.le_refl _⟩ ?_
  refine x_iload dL_leaves_170 rfl ?_
  refine x_ic_ne (tgt := 189) dL_leaves_172 (by decide) ⟨by omega, by omega⟩ ⟨by omega, by omega⟩ (fun h => absurd h (by omega)) (fun hb172 => ?_)
  refine x_aload_n dL_leaves_175 rfl ?_
  refine x_iload_n dL_leaves_176 rfl ?_
  refine x_iconst dL_leaves_177 ?_
  refine c_RL_15d dL_leaves_178 rfl (tc_3 hP2 ht2 hc) bk (Nat.le_of_ble_eq_true rfl) (Nat.le_of_ble_eq_true rfl) ⟨Nat.le_refl _, Nat.le_refl _⟩ ?_
  refine x_iload_n dL_leaves_181 rfl ?_
  refine x_ic_ne (tgt := 189) dL_leaves_182 (by decide) ⟨by omega, by omega⟩ ⟨by omega, by omega⟩ (fun h => absurd h (by omega)) (fun hb182 => ?_)
  refine x_iconst dL_leaves_185 ?_
  refine x_goto (tgt := 190) dL_leaves_186 (by decide) ?_
  exact x_ireturn dL_leaves_190 rfl (jbool (by first | exact Or.inl rfl | exact Or.inr rfl)).1 ⟨Nat.le_refl _, Nat.le_refl _⟩ ⟨rfl, _, rfl, rfl, _, _, _, _, hP2, hE, rfl, rfl⟩
theorem leaves_127 {G : JG} {S : JS} {D : JD} {d : Nat} {X t n q : Int} {hs : Int → Int → Int} {r : Int → Int} {e : Int} {c : Int} (hP : pSt S D X t n hs r q) (hE : pIn e r) (t0 : 0 ≤ t) (ht2 : t + 100 ≤ 60000) (hc : 0 ≤ c ∧ c < r 1) (h2 : ¬ r (29 + 11 * c) ≠ 1) (h4 : ¬ r (161 + 13 * c) = 0) (h5 : ¬ gAgr r (sNext r c 1)) (h7 : gDeep r (sNext r c 1) c 1) (hn : 2 ≤ r (161 + 13 * c)) : JM G yL_leaves cL_leaves 8 (some .boolean) (d + 7) (0, 0) S D [.inr (.inr (some X)), .inl c, .inl 1] (jOK S X (t + 100) e (r 1) (r 2)) := by
  have ht : t ≤ 60000 := by omega
  have hB := hP.1
  have bk := hB.1
  have hI := hP.2.1.2.2.2.1
  have b1 := hI.1
  obtain ⟨c4, ln0, ln1, lf0, lf1, gt, s0, s1, s2, s3, sg, v0, v1, w0, w1, f0, f1, k0, k1, kk, a0, a1, g0, g1⟩ := hI.cB ht hc
  have hg : (1 : Int) = 0 ∨ (1 : Int) = 1 := by omega
  have sgg := sg 1 hg
  obtain ⟨x0, x1, xp⟩ := hI.next (g := 1) hc.1 hc.2 (by omega)
  have hk : 0 ≤ sNext r c 1 ∧ sNext r c 1 < r 2 := ⟨x0, x1⟩
  obtain ⟨bk0, q0, q1, q2, q3, q4, q5, q6, q7, q8, q9, q10, q11, bp, q13, q14, q15, q16, q17, q18⟩ := hI.bB ht hk
  have nx : r (162 + 13 * c + (sCn r (100 + c) - 1)) = sNext r c 1 := by
    unfold sNext
    rw [if_neg (by decide), kk]; congr 1; omega
  have l2 := (hI.lines hc.1 hc.2).1 0 (by omega) (by omega)
  have ta := tA_n h5
  have h7b : sLv r (100 + c) - sHg r c 1 - r 3 < sDr r (sNext r c 1) := h7
  have hz : zLeave c 1 r = (-100000003, none, 7) := by unfold zLeave; rw [if_pos ⟨hc, hg⟩, if_neg h2, if_neg h4, if_neg h5, if_pos h7]
  show JX _ _ _ _ _ _ _ _ _ _ _ [_, _, _, _, _, _, _, _] _ _
  refine x_aload_n dL_leaves_0 rfl ?_
  refine x_iload_n dL_leaves_1 rfl ?_
  refine x_iconst dL_leaves_2 ?_
  refine c_RL_15d dL_leaves_3 rfl (tc_3 hP ht hc) bk (Nat.le_of_ble_eq_true rfl) (Nat.le_of_ble_eq_true rfl) ⟨Nat.le_refl _, Nat.le_refl _⟩ ?_
  refine x_istore_n dL_leaves_6 (by decide) ?_
  show JX _ _ _ _ _ _ _ _ _ _ _ [_, _, _, _, _, _, _, _] _ _
  refine x_iload_n dL_leaves_7 rfl ?_
  refine x_if_ne (tgt := 15) dL_leaves_8 (by decide) ⟨by omega, by omega⟩ (fun hb8 => ?_) (fun h => (h (by omega)).elim)
  refine x_aload_n dL_leaves_15 rfl ?_
  refine x_iload_n dL_leaves_16 rfl ?_
  refine x_iload_n dL_leaves_17 rfl ?_
  refine x_if_ne (tgt := 25) dL_leaves_18 (by decide) ⟨by omega, by omega⟩ (fun hb18 => ?_) (fun h => (h (by omega)).elim)
  refine x_iload_n dL_leaves_25 rfl ?_
  refine x_iconst dL_leaves_26 ?_
  refine x_isub dL_leaves_27 ?_
  refine c_RL_38d dL_leaves_28 rfl (tl_y hP ht hc ⟨by omega, by omega⟩ ⟨by omega, by omega⟩) bk (Nat.le_of_ble_eq_true rfl) (Nat.le_of_ble_eq_true rfl) ⟨Nat.le_refl _, Nat.le_refl _⟩ ?_
  rw [nx]
  refine x_istore dL_leaves_31 (by decide) ?_
  show JX _ _ _ _ _ _ _ _ _ _ _ [_, _, _, _, _, _, _, _] _ _
  refine x_iload_n dL_leaves_33 rfl ?_
  refine x_iconst dL_leaves_34 ?_
  refine x_ic_ge (tgt := 43) dL_leaves_35 (by decide) ⟨by omega, by omega⟩ ⟨by omega, by omega⟩ (fun hb35 => ?_) (fun h => (h (by omega)).elim)
  refine x_iload_n dL_leaves_43 rfl ?_
  refine x_if_ne (tgt := 56) dL_leaves_44 (by decide) ⟨by omega, by omega⟩ (fun hb44 => ?_) (fun h => (h (by omega)).elim)
  refine x_aload_n dL_leaves_56 rfl ?_
  refine x_iload_n dL_leaves_57 rfl ?_
  refine x_iconst dL_leaves_58 ?_
  refine c_RL_38d dL_leaves_59 rfl (tl_y hP ht hc ⟨by omega, by omega⟩ ⟨by omega, by omega⟩) bk (Nat.le_of_ble_eq_true rfl) (Nat.le_of_ble_eq_true rfl) ⟨Nat.le_refl _, Nat.le_refl _⟩ ?_
  refine x_istore dL_leaves_62 (by decide) ?_
  show JX _ _ _ _ _ _ _ _ _ _ _ [_, _, _, _, _, _, _, _] _ _
  refine x_aload_n dL_leaves_64 rfl ?_
  refine x_iload_n dL_leaves_65 rfl ?_
  refine x_bipush dL_leaves_66 (by decide) ?_
  refine c_RL_15d dL_leaves_68 rfl (tc_8 hP ht hc) bk (Nat.le_of_ble_eq_true rfl) (Nat.le_of_ble_eq_true rfl) ⟨Nat.le_refl _, Nat.le_refl _⟩ ?_
  refine x_iload_n dL_leaves_71 rfl ?_
  refine x_ic_eq (tgt := 79) dL_leaves_72 (by decide) ⟨by omega, by omega⟩ ⟨by omega, by omega⟩ (fun hb72 => ?_) (fun h => (h (by omega)).elim)
  refine x_iload_n dL_leaves_79 rfl ?_
  refine x_if_ne (tgt := 87) dL_leaves_80 (by decide) ⟨by omega, by omega⟩ (fun hb80 => ?_) (fun h => (h (by omega)).elim)
  refine x_aload_n dL_leaves_87 rfl ?_
  refine x_iload dL_leaves_88 rfl ?_
  refine x_bipush dL_leaves_90 (by decide) ?_
  refine c_RL_22d dL_leaves_92 rfl (tb_6 hP ht hk) bk (Nat.le_of_ble_eq_true rfl) (Nat.le_of_ble_eq_true rfl) ⟨Nat.le_refl _, Nat.le_refl _⟩ ?_
  rw [ta]
  refine x_iconst dL_leaves_95 ?_
  refine x_ic_ne (tgt := 103) dL_leaves_96 (by decide) ⟨by omega, by omega⟩ ⟨by omega, by omega⟩ (fun hb96 => ?_) (fun h => (h (by omega)).elim)
  refine x_aload_n dL_leaves_103 rfl ?_
  refine x_iload_n dL_leaves_104 rfl ?_
  refine x_iconst dL_leaves_105 ?_
  refine c_RL_15d dL_leaves_106 rfl (tc_0 hP ht hc) bk (Nat.le_of_ble_eq_true rfl) (Nat.le_of_ble_eq_true rfl) ⟨Nat.le_refl _, Nat.le_refl _⟩ ?_
  refine x_aload_n dL_leaves_109 rfl ?_
  refine x_iload_n dL_leaves_110 rfl ?_
  refine x_bipush dL_leaves_111 (by decide) ?_
  refine x_iload_n dL_leaves_113 rfl ?_
  refine x_iadd dL_leaves_114 ?_
  refine c_RL_15d dL_leaves_115 rfl (tc_s (g := 1) hP ht hc hg) bk (Nat.le_of_ble_eq_true rfl) (Nat.le_of_ble_eq_true rfl) ⟨Nat.le_refl _, Nat.le_refl _⟩ ?_
  refine x_isub dL_leaves_118 ?_
  refine x_aload_n dL_leaves_119 rfl ?_
  refine x_iload dL_leaves_120 rfl ?_
  refine x_iconst dL_leaves_122 ?_
  refine c_RL_22d dL_leaves_123 rfl (tb_2 hP ht hk) bk (Nat.le_of_ble_eq_true rfl) (Nat.le_of_ble_eq_true rfl) ⟨Nat.le_refl _, Nat.le_refl _⟩ ?_
  refine x_aload_n dL_leaves_126 rfl ?_
  refine x_bipush dL_leaves_127 (by decide) ?_
  refine c_RL_18d dL_leaves_129 rfl (tn_6 hP ht) bk (Nat.le_of_ble_eq_true rfl) (Nat.le_of_ble_eq_true rfl) ⟨Nat.le_refl _, Nat.le_refl _⟩ ?_
  refine x_iadd dL_leaves_132 ?_
  refine x_ic_ge (tgt := 141) dL_leaves_133 (by decide) ⟨by omega, by omega⟩ ⟨by omega, by omega⟩ (fun h => absurd h (by omega)) (fun hb133 => ?_)
  refine x_bipush dL_leaves_136 (by decide) ?_
  refine x_goto (tgt := 142) dL_leaves_138 (by decide) ?_
  refine x_istore dL_leaves_142 (by decide) ?_
  show JX _ _ _ _ _ _ _ _ _ _ _ [_, _, _, _, _, _, _, _] _ _
  refine x_aload_n dL_leaves_144 rfl ?_
  refine x_iload_n dL_leaves_145 rfl ?_
  refine x_iload_n dL_leaves_146 rfl ?_
  refine c_RL_69p dL_leaves_147 rfl (kX7_leave hP.1 (Or.inl rfl) hP.2.1 ht2 ⟨by omega, by omega⟩ ⟨by omega, by omega⟩) bk (Nat.le_of_ble_eq_true rfl) (Nat.le_of_ble_eq_true rfl) ⟨Nat.le_refl _, Nat.le_refl _⟩ (fun w2 D2 h2 => ?_)
  obtain ⟨rfl, hP2⟩ := hP.ref hz (by decide) h2
  refine x_istore dL_leaves_150 (by decide) ?_
  show JX _ _ _ _ _ _ _ _ _ _ _ [_, _, _, _, _, _, _, _] _ _
  refine x_iload dL_leaves_152 rfl ?_
  refine x_if_le (tgt := 191) dL_leaves_154 (by decide) ⟨by omega, by omega⟩ (fun h => absurd h (by omega)) (fun hb154 => ?_)
  refine x_iload dL_leaves_157 rfl ?_
  refine x_ldc (e := -100000003) dL_leaves_159 ct_RL_59 (by decide) ?_
  refine x_ic_ne (tgt := 189) dL_leaves_161 (by decide) ⟨by omega, by omega⟩ ⟨by omega, by omega⟩ (fun h => absurd h (by omega)) (fun hb161 => ?_)
  refine x_aload_n dL_leaves_164 rfl ?_
  refine x_bipush dL_leaves_165 (by decide) ?_
  refine c_RL_18d dL_leaves_167 rfl (tn_7 hP2 ht2) bk (Nat.le_of_ble_eq_true rfl) (Nat.le_of_ble_eq_true rfl) ⟨Nat.le_refl _, Nat.le_refl _⟩ ?_
  refine x_iload dL_leaves_170 rfl ?_
  refine x_ic_ne (tgt := 189) dL_leaves_172 (by decide) ⟨by omega, by omega⟩ ⟨by omega, by omega⟩ (fun h => absurd h (by omega)) (fun hb172 => ?_)
  refine x_aload_n dL_leaves_175 rfl ?_
  refine x_iload_n dL_leaves_176 rfl ?_
  refine x_iconst dL_leaves_177 ?_
  refine c_RL_15d dL_leaves_178 rfl (tc_3 hP2 ht2 hc) bk (Nat.le_of_ble_eq_true rfl) (Nat.le_of_ble_eq_true rfl) ⟨Nat.le_refl _, Nat.le_refl _⟩ ?_
  refine x_iload_n dL_leaves_181 rfl ?_
  refine x_ic_ne (tgt := 189) dL_leaves_182 (by decide) ⟨by omega, by omega⟩ ⟨by omega, by omega⟩ (fun h => absurd h (by omega)) (fun hb182 => ?_)
  refine x_iconst dL_leaves_185 ?_
  refine x_goto (tgt := 190) dL_leaves_186 (by decide) ?_
  exact x_ireturn dL_leaves_190 rfl (jbool (by first | exact Or.inl rfl | exact Or.inr rfl)).1 ⟨Nat.le_refl _, Nat.le_refl _⟩ ⟨rfl, _, rfl, rfl, _, _, _, _, hP2, hE, rfl, rfl⟩
theorem leaves_120 {G : JG} {S : JS} {D : JD} {d : Nat} {X t n q : Int} {hs : Int → Int → Int} {r : Int → Int} {e : Int} {c : Int} (hP : pSt S D X t n hs r q) (hE : pIn e r) (t0 : 0 ≤ t) (ht2 : t + 100 ≤ 60000) (hc : 0 ≤ c ∧ c < r 1) (h2 : ¬ r (29 + 11 * c) ≠ 1) (h4 : ¬ r (161 + 13 * c) = 0) (h5 : ¬ gAgr r (sNext r c 1)) (h7 : ¬ gDeep r (sNext r c 1) c 1) (hn : 2 ≤ r (161 + 13 * c)) : JM G yL_leaves cL_leaves 8 (some .boolean) (d + 7) (0, 0) S D [.inr (.inr (some X)), .inl c, .inl 1] (jOK S X (t + 100) e (r 1) (r 2)) := by
  have ht : t ≤ 60000 := by omega
  have hB := hP.1
  have bk := hB.1
  have hI := hP.2.1.2.2.2.1
  have b1 := hI.1
  obtain ⟨c4, ln0, ln1, lf0, lf1, gt, s0, s1, s2, s3, sg, v0, v1, w0, w1, f0, f1, k0, k1, kk, a0, a1, g0, g1⟩ := hI.cB ht hc
  have hg : (1 : Int) = 0 ∨ (1 : Int) = 1 := by omega
  have sgg := sg 1 hg
  obtain ⟨x0, x1, xp⟩ := hI.next (g := 1) hc.1 hc.2 (by omega)
  have hk : 0 ≤ sNext r c 1 ∧ sNext r c 1 < r 2 := ⟨x0, x1⟩
  obtain ⟨bk0, q0, q1, q2, q3, q4, q5, q6, q7, q8, q9, q10, q11, bp, q13, q14, q15, q16, q17, q18⟩ := hI.bB ht hk
  have nx : r (162 + 13 * c + (sCn r (100 + c) - 1)) = sNext r c 1 := by
    unfold sNext
    rw [if_neg (by decide), kk]; congr 1; omega
  have l2 := (hI.lines hc.1 hc.2).1 0 (by omega) (by omega)
  have ta := tA_n h5
  have h7b : ¬ sLv r (100 + c) - sHg r c 1 - r 3 < sDr r (sNext r c 1) := h7
  have hz : zLeave c 1 r = (sNext r c 1, some (rLeave (sNext r c 1) c 1 r), 0) := by unfold zLeave; rw [if_pos ⟨hc, hg⟩, if_neg h2, if_neg h4, if_neg h5, if_neg h7]
  obtain ⟨hI3, of, k1a, k2a, m71, m161, m0⟩ := leave_nums hI hc hg h4
  have hE3 := (hE.off hI of).all hI3
  have hc2 : 0 ≤ c ∧ c < sAll (rLeave (sNext r c 1) c 1 r) 1 := ⟨hc.1, by omega⟩
  have hk2 : 0 ≤ sNext r c 1 ∧ sNext r c 1 < sAll (rLeave (sNext r c 1) c 1 r) 2 := ⟨x0, by omega⟩
  have m0b := m0 hn
  rw [if_neg (by decide)] at m0b
  show JX _ _ _ _ _ _ _ _ _ _ _ [_, _, _, _, _, _, _, _] _ _
  refine x_aload_n dL_leaves_0 rfl ?_
  refine x_iload_n dL_leaves_1 rfl ?_
  refine x_iconst dL_leaves_2 ?_
  refine c_RL_15d dL_leaves_3 rfl (tc_3 hP ht hc) bk (Nat.le_of_ble_eq_true rfl) (Nat.le_of_ble_eq_true rfl) ⟨Nat.le_refl _, Nat.le_refl _⟩ ?_
  refine x_istore_n dL_leaves_6 (by decide) ?_
  show JX _ _ _ _ _ _ _ _ _ _ _ [_, _, _, _, _, _, _, _] _ _
  refine x_iload_n dL_leaves_7 rfl ?_
  refine x_if_ne (tgt := 15) dL_leaves_8 (by decide) ⟨by omega, by omega⟩ (fun hb8 => ?_) (fun h => (h (by omega)).elim)
  refine x_aload_n dL_leaves_15 rfl ?_
  refine x_iload_n dL_leaves_16 rfl ?_
  refine x_iload_n dL_leaves_17 rfl ?_
  refine x_if_ne (tgt := 25) dL_leaves_18 (by decide) ⟨by omega, by omega⟩ (fun hb18 => ?_) (fun h => (h (by omega)).elim)
  refine x_iload_n dL_leaves_25 rfl ?_
  refine x_iconst dL_leaves_26 ?_
  refine x_isub dL_leaves_27 ?_
  refine c_RL_38d dL_leaves_28 rfl (tl_y hP ht hc ⟨by omega, by omega⟩ ⟨by omega, by omega⟩) bk (Nat.le_of_ble_eq_true rfl) (Nat.le_of_ble_eq_true rfl) ⟨Nat.le_refl _, Nat.le_refl _⟩ ?_
  rw [nx]
  refine x_istore dL_leaves_31 (by decide) ?_
  show JX _ _ _ _ _ _ _ _ _ _ _ [_, _, _, _, _, _, _, _] _ _
  refine x_iload_n dL_leaves_33 rfl ?_
  refine x_iconst dL_leaves_34 ?_
  refine x_ic_ge (tgt := 43) dL_leaves_35 (by decide) ⟨by omega, by omega⟩ ⟨by omega, by omega⟩ (fun hb35 => ?_) (fun h => (h (by omega)).elim)
  refine x_iload_n dL_leaves_43 rfl ?_
  refine x_if_ne (tgt := 56) dL_leaves_44 (by decide) ⟨by omega, by omega⟩ (fun hb44 => ?_) (fun h => (h (by omega)).elim)
  refine x_aload_n dL_leaves_56 rfl ?_
  refine x_iload_n dL_leaves_57 rfl ?_
  refine x_iconst dL_leaves_58 ?_
  refine c_RL_38d dL_leaves_59 rfl (tl_y hP ht hc ⟨by omega, by omega⟩ ⟨by omega, by omega⟩) bk (Nat.le_of_ble_eq_true rfl) (Nat.le_of_ble_eq_true rfl) ⟨Nat.le_refl _, Nat.le_refl _⟩ ?_
  refine x_istore dL_leaves_62 (by decide) ?_
  show JX _ _ _ _ _ _ _ _ _ _ _ [_, _, _, _, _, _, _, _] _ _
  refine x_aload_n dL_leaves_64 rfl ?_
  refine x_iload_n dL_leaves_65 rfl ?_
  refine x_bipush dL_leaves_66 (by decide) ?_
  refine c_RL_15d dL_leaves_68 rfl (tc_8 hP ht hc) bk (Nat.le_of_ble_eq_true rfl) (Nat.le_of_ble_eq_true rfl) ⟨Nat.le_refl _, Nat.le_refl _⟩ ?_
  refine x_iload_n dL_leaves_71 rfl ?_
  refine x_ic_eq (tgt := 79) dL_leaves_72 (by decide) ⟨by omega, by omega⟩ ⟨by omega, by omega⟩ (fun hb72 => ?_) (fun h => (h (by omega)).elim)
  refine x_iload_n dL_leaves_79 rfl ?_
  refine x_if_ne (tgt := 87) dL_leaves_80 (by decide) ⟨by omega, by omega⟩ (fun hb80 => ?_) (fun h => (h (by omega)).elim)
  refine x_aload_n dL_leaves_87 rfl ?_
  refine x_iload dL_leaves_88 rfl ?_
  refine x_bipush dL_leaves_90 (by decide) ?_
  refine c_RL_22d dL_leaves_92 rfl (tb_6 hP ht hk) bk (Nat.le_of_ble_eq_true rfl) (Nat.le_of_ble_eq_true rfl) ⟨Nat.le_refl _, Nat.le_refl _⟩ ?_
  rw [ta]
  refine x_iconst dL_leaves_95 ?_
  refine x_ic_ne (tgt := 103) dL_leaves_96 (by decide) ⟨by omega, by omega⟩ ⟨by omega, by omega⟩ (fun hb96 => ?_) (fun h => (h (by omega)).elim)
  refine x_aload_n dL_leaves_103 rfl ?_
  refine x_iload_n dL_leaves_104 rfl ?_
  refine x_iconst dL_leaves_105 ?_
  refine c_RL_15d dL_leaves_106 rfl (tc_0 hP ht hc) bk (Nat.le_of_ble_eq_true rfl) (Nat.le_of_ble_eq_true rfl) ⟨Nat.le_refl _, Nat.le_refl _⟩ ?_
  refine x_aload_n dL_leaves_109 rfl ?_
  refine x_iload_n dL_leaves_110 rfl ?_
  refine x_bipush dL_leaves_111 (by decide) ?_
  refine x_iload_n dL_leaves_113 rfl ?_
  refine x_iadd dL_leaves_114 ?_
  refine c_RL_15d dL_leaves_115 rfl (tc_s (g := 1) hP ht hc hg) bk (Nat.le_of_ble_eq_true rfl) (Nat.le_of_ble_eq_true rfl) ⟨Nat.le_refl _, Nat.le_refl _⟩ ?_
  refine x_isub dL_leaves_118 ?_
  refine x_aload_n dL_leaves_119 rfl ?_
  refine x_iload dL_leaves_120 rfl ?_
  refine x_iconst dL_leaves_122 ?_
  refine c_RL_22d dL_leaves_123 rfl (tb_2 hP ht hk) bk (Nat.le_of_ble_eq_true rfl) (Nat.le_of_ble_eq_true rfl) ⟨Nat.le_refl _, Nat.le_refl _⟩ ?_
  refine x_aload_n dL_leaves_126 rfl ?_
  refine x_bipush dL_leaves_127 (by decide) ?_
  refine c_RL_18d dL_leaves_129 rfl (tn_6 hP ht) bk (Nat.le_of_ble_eq_true rfl) (Nat.le_of_ble_eq_true rfl) ⟨Nat.le_refl _, Nat.le_refl _⟩ ?_
  refine x_iadd dL_leaves_132 ?_
  refine x_ic_ge (tgt := 141) dL_leaves_133 (by decide) ⟨by omega, by omega⟩ ⟨by omega, by omega⟩ (fun hb133 => ?_) (fun h => (h (by omega)).elim)
  refine x_iconst dL_leaves_141 ?_
  refine x_istore dL_leaves_142 (by decide) ?_
  show JX _ _ _ _ _ _ _ _ _ _ _ [_, _, _, _, _, _, _, _] _ _
  refine x_aload_n dL_leaves_144 rfl ?_
  refine x_iload_n dL_leaves_145 rfl ?_
  refine x_iload_n dL_leaves_146 rfl ?_
  refine c_RL_69p dL_leaves_147 rfl (kX7_leave hP.1 (Or.inl rfl) hP.2.1 ht2 ⟨by omega, by omega⟩ ⟨by omega, by omega⟩) bk (Nat.le_of_ble_eq_true rfl) (Nat.le_of_ble_eq_true rfl) ⟨Nat.le_refl _, Nat.le_refl _⟩ (fun w2 D2 h2 => ?_)
  obtain ⟨rfl, hP2⟩ := hP.some hz h2
  have hI2 := hP2.2.1.2.2.2.1
  have cB2 := hI2.line hc2.1 hc2.2
  refine x_istore dL_leaves_150 (by decide) ?_
  show JX _ _ _ _ _ _ _ _ _ _ _ [_, _, _, _, _, _, _, _] _ _
  refine x_iload dL_leaves_152 rfl ?_
  refine x_if_le (tgt := 191) dL_leaves_154 (by decide) ⟨by omega, by omega⟩ (fun hb154 => ?_) (fun h => (h (by omega)).elim)
  refine x_iload dL_leaves_191 rfl ?_
  refine x_iload dL_leaves_193 rfl ?_
  refine x_ic_ne (tgt := 239) dL_leaves_195 (by decide) ⟨by omega, by omega⟩ ⟨by omega, by omega⟩ (fun h => absurd h (by omega)) (fun hb195 => ?_)
  refine x_aload_n dL_leaves_198 rfl ?_
  refine x_iload dL_leaves_199 rfl ?_
  refine x_bipush dL_leaves_201 (by decide) ?_
  refine c_RL_22d dL_leaves_203 rfl (tb_7 hP2 ht2 hk2) bk (Nat.le_of_ble_eq_true rfl) (Nat.le_of_ble_eq_true rfl) ⟨Nat.le_refl _, Nat.le_refl _⟩ ?_
  rw [m71]
  refine x_iload_n dL_leaves_206 rfl ?_
  refine x_iload_n dL_leaves_207 rfl ?_
  refine x_iadd dL_leaves_208 ?_
  refine x_ic_ne (tgt := 239) dL_leaves_209 (by decide) ⟨by omega, by omega⟩ ⟨by omega, by omega⟩ (fun h => absurd h (by omega)) (fun hb209 => ?_)
  refine x_aload_n dL_leaves_212 rfl ?_
  refine x_iload_n dL_leaves_213 rfl ?_
  refine x_iconst dL_leaves_214 ?_
  refine c_RL_15d dL_leaves_215 rfl (tc_3 hP2 ht2 hc2) bk (Nat.le_of_ble_eq_true rfl) (Nat.le_of_ble_eq_true rfl) ⟨Nat.le_refl _, Nat.le_refl _⟩ ?_
  refine x_iload_n dL_leaves_218 rfl ?_
  refine x_iconst dL_leaves_219 ?_
  refine x_isub dL_leaves_220 ?_
  refine x_ic_ne (tgt := 239) dL_leaves_221 (by decide) ⟨by omega, by omega⟩ ⟨by omega, by omega⟩ (fun h => absurd h (by omega)) (fun hb221 => ?_)
  refine x_aload_n dL_leaves_224 rfl ?_
  refine x_iload_n dL_leaves_225 rfl ?_
  refine x_iconst dL_leaves_226 ?_
  refine c_RL_38d dL_leaves_227 rfl (tl_y hP2 ht2 hc2 ⟨by omega, by omega⟩ ⟨by omega, by omega⟩) bk (Nat.le_of_ble_eq_true rfl) (Nat.le_of_ble_eq_true rfl) ⟨Nat.le_refl _, Nat.le_refl _⟩ ?_
  rw [m0b]
  refine x_iload dL_leaves_230 rfl ?_
  refine x_ic_ne (tgt := 239) dL_leaves_232 (by decide) ⟨by omega, by omega⟩ ⟨by omega, by omega⟩ (fun h => absurd h (by omega)) (fun hb232 => ?_)
  refine x_iconst dL_leaves_235 ?_
  refine x_goto (tgt := 240) dL_leaves_236 (by decide) ?_
  exact x_ireturn dL_leaves_240 rfl (jbool (by first | exact Or.inl rfl | exact Or.inr rfl)).1 ⟨Nat.le_refl _, Nat.le_refl _⟩ ⟨rfl, _, rfl, rfl, _, _, _, _, hP2, hE3, k1a, k2a⟩
theorem kL_leaves_0 {G : JG} {S : JS} {D : JD} {d : Nat} {X t n q : Int} {hs : Int → Int → Int} {r : Int → Int} {e : Int} {c : Int} (hP : pSt S D X t n hs r q) (hE : pIn e r) (t0 : 0 ≤ t) (ht2 : t + 100 ≤ 60000) (hc : 0 ≤ c ∧ c < r 1) : JM G yL_leaves cL_leaves 8 (some .boolean) (d + 7) (0, 0) S D [.inr (.inr (some X)), .inl c, .inl 0] (jOK S X (t + 100) e (r 1) (r 2)) := by
  have ln := hP.2.1.2.2.2.1.line hc.1 hc.2
  rcases (show r (161 + 13 * c) = 0 ∨ r (161 + 13 * c) = 1 ∨ 2 ≤ r (161 + 13 * c) by omega) with hn | hn | hn
  · by_cases h2 : r (29 + 11 * c) ≠ 0
    · exact leaves_002 hP hE t0 ht2 hc h2 hn
    · exact leaves_004 hP hE t0 ht2 hc h2 hn hn
  · by_cases h2 : r (29 + 11 * c) ≠ 0
    · exact leaves_012 hP hE t0 ht2 hc h2 hn
    have h4 : ¬ r (161 + 13 * c) = 0 := by omega
    by_cases h5 : gAgr r (sNext r c 0)
    · exact leaves_015 hP hE t0 ht2 hc h2 h4 h5 hn
    by_cases h7 : gDeep r (sNext r c 0) c 0
    · exact leaves_017 hP hE t0 ht2 hc h2 h4 h5 h7 hn
    · exact leaves_010 hP hE t0 ht2 hc h2 h4 h5 h7 hn
  · by_cases h2 : r (29 + 11 * c) ≠ 0
    · exact leaves_022 hP hE t0 ht2 hc h2 hn
    have h4 : ¬ r (161 + 13 * c) = 0 := by omega
    by_cases h5 : gAgr r (sNext r c 0)
    · exact leaves_025 hP hE t0 ht2 hc h2 h4 h5 hn
    by_cases h7 : gDeep r (sNext r c 0) c 0
    · exact leaves_027 hP hE t0 ht2 hc h2 h4 h5 h7 hn
    · exact leaves_020 hP hE t0 ht2 hc h2 h4 h5 h7 hn
theorem kL_leaves_1 {G : JG} {S : JS} {D : JD} {d : Nat} {X t n q : Int} {hs : Int → Int → Int} {r : Int → Int} {e : Int} {c : Int} (hP : pSt S D X t n hs r q) (hE : pIn e r) (t0 : 0 ≤ t) (ht2 : t + 100 ≤ 60000) (hc : 0 ≤ c ∧ c < r 1) : JM G yL_leaves cL_leaves 8 (some .boolean) (d + 7) (0, 0) S D [.inr (.inr (some X)), .inl c, .inl 1] (jOK S X (t + 100) e (r 1) (r 2)) := by
  have ln := hP.2.1.2.2.2.1.line hc.1 hc.2
  rcases (show r (161 + 13 * c) = 0 ∨ r (161 + 13 * c) = 1 ∨ 2 ≤ r (161 + 13 * c) by omega) with hn | hn | hn
  · by_cases h2 : r (29 + 11 * c) ≠ 1
    · exact leaves_102 hP hE t0 ht2 hc h2 hn
    · exact leaves_104 hP hE t0 ht2 hc h2 hn hn
  · by_cases h2 : r (29 + 11 * c) ≠ 1
    · exact leaves_112 hP hE t0 ht2 hc h2 hn
    have h4 : ¬ r (161 + 13 * c) = 0 := by omega
    by_cases h5 : gAgr r (sNext r c 1)
    · exact leaves_115 hP hE t0 ht2 hc h2 h4 h5 hn
    by_cases h7 : gDeep r (sNext r c 1) c 1
    · exact leaves_117 hP hE t0 ht2 hc h2 h4 h5 h7 hn
    · exact leaves_110 hP hE t0 ht2 hc h2 h4 h5 h7 hn
  · by_cases h2 : r (29 + 11 * c) ≠ 1
    · exact leaves_122 hP hE t0 ht2 hc h2 hn
    have h4 : ¬ r (161 + 13 * c) = 0 := by omega
    by_cases h5 : gAgr r (sNext r c 1)
    · exact leaves_125 hP hE t0 ht2 hc h2 h4 h5 hn
    by_cases h7 : gDeep r (sNext r c 1) c 1
    · exact leaves_127 hP hE t0 ht2 hc h2 h4 h5 h7 hn
    · exact leaves_120 hP hE t0 ht2 hc h2 h4 h5 h7 hn
theorem kL_leaves {G : JG} {S : JS} {D : JD} {d : Nat} {X t n q : Int} {hs : Int → Int → Int} {r : Int → Int} {e : Int} {c : Int} {g : Int} (hP : pSt S D X t n hs r q) (hE : pIn e r) (t0 : 0 ≤ t) (ht2 : t + 100 ≤ 60000) (hc : 0 ≤ c ∧ c < r 1) (hg : g = 0 ∨ g = 1) : JM G yL_leaves cL_leaves 8 (some .boolean) (d + 7) (0, 0) S D [.inr (.inr (some X)), .inl c, .inl g] (jOK S X (t + 100) e (r 1) (r 2)) := by
  rcases hg with rfl | rfl
  · exact kL_leaves_0 hP hE t0 ht2 hc
  · exact kL_leaves_1 hP hE t0 ht2 hc
