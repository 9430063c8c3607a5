/-! THE LAW: cargo and ballast -/
theorem load_nums {t k v : Int} {r : Int → Int} (hI : rIn t r) (hk : 0 ≤ k ∧ k < r 2) (hw : 0 ≤ r (69 + 8 * k) + v ∧ v ≤ r (68 + 8 * k) - r (69 + 8 * k) - r (70 + 8 * k)) :
    rIn t (rLoad k v r) ∧ sAll (rLoad k v r) 1 = r 1 ∧ sAll (rLoad k v r) 2 = r 2 ∧ sW (sAll (rLoad k v r)) k = sW r k + v ∧ sAll (rLoad k v r) (69 + 8 * k) = r (69 + 8 * k) + v ∧ sAll (rLoad k v r) (70 + 8 * k) = r (70 + 8 * k) ∧ sAll (rLoad k v r) (68 + 8 * k) = r (68 + 8 * k) ∧ sDr (sAll (rLoad k v r)) k = sDr (rLoad k v r) k := by
  have b1 := hI.1
  have hI3 := hI.load hk.1 hk.2 hw
  have o : ∀ j : Int, j ≠ 69 + 8 * k → rLoad k v r j = r j := fun j hj => rup_ne hj
  have e69 : rLoad k v r (69 + 8 * k) = r (69 + 8 * k) + v := rup_eq
  have K : ∀ j : Int, j < 8 ∨ 57 ≤ j → sAll (rLoad k v r) j = rLoad k v r j := fun j hj => hI3.keep hj
  refine ⟨hI3, by rw [K _ (by omega), o _ (by omega)], by rw [K _ (by omega), o _ (by omega)], ?_, by rw [K _ (by omega), e69], by rw [K _ (by omega), o _ (by omega)], by rw [K _ (by omega), o _ (by omega)], sDr_all hI3 hk.1⟩
  unfold sW
  rw [K _ (by omega), K _ (by omega), K _ (by omega), o (66 + 8 * k) (by omega), o (70 + 8 * k) (by omega), e69]
  omega
theorem pump_nums {t k v : Int} {r : Int → Int} (hI : rIn t r) (hk : 0 ≤ k ∧ k < r 2) (hv : -1000 ≤ v ∧ v ≤ 1000) (hw : v ≤ r (wA (r (71 + 8 * k)) + 2) ∧ 0 ≤ r (70 + 8 * k) + v ∧ v ≤ r (68 + 8 * k) - r (69 + 8 * k) - r (70 + 8 * k)) :
    rIn (t + 1) (rPump k v r) ∧ sAll (rPump k v r) 1 = r 1 ∧ sAll (rPump k v r) 2 = r 2 ∧ sW (sAll (rPump k v r)) k = sW r k + v ∧ sAll (rPump k v r) (70 + 8 * k) = r (70 + 8 * k) + v ∧ sAll (rPump k v r) (69 + 8 * k) = r (69 + 8 * k) ∧ sAll (rPump k v r) (68 + 8 * k) = r (68 + 8 * k) ∧ sDr (sAll (rPump k v r)) k = sDr (rPump k v r) k := by
  have b1 := hI.1
  have hI3 := hI.pump hk.1 hk.2 hv hw
  have bp := (hI.bw hk.1 hk.2).1
  have tw := bp.two hI 0
  have hlt : wA (r (71 + 8 * k)) + 2 < 60 ∧ 8 ≤ wA (r (71 + 8 * k)) + 2 := by
    rcases tw with ⟨_, _, _, q, _⟩ | ⟨c, _, _, _, _, q, _⟩ <;> omega
  have o : ∀ j : Int, j ≠ 70 + 8 * k → (j < 8 ∨ 60 ≤ j) → rPump k v r j = r j := fun j hj h2 => by
    unfold rPump
    rw [rup_ne hj, rup_ne (by omega)]
  have e70 : rPump k v r (70 + 8 * k) = r (70 + 8 * k) + v := rup_eq
  have K : ∀ j : Int, j < 8 ∨ 57 ≤ j → sAll (rPump k v r) j = rPump k v r j := fun j hj => hI3.keep hj
  refine ⟨hI3, by rw [K _ (by omega), o _ (by omega) (by omega)], by rw [K _ (by omega), o _ (by omega) (by omega)], ?_, by rw [K _ (by omega), e70], by rw [K _ (by omega), o _ (by omega) (by omega)], by rw [K _ (by omega), o _ (by omega) (by omega)], sDr_all hI3 hk.1⟩
  unfold sW
  rw [K _ (by omega), K _ (by omega), K _ (by omega), o (66 + 8 * k) (by omega) (by omega), o (69 + 8 * k) (by omega) (by omega), e70]
  omega
theorem cargo_14a {G : JG} {S : JS} {D : JD} {d : Nat} {X t n q : Int} {hs : Int → Int → Int} {r : Int → Int} {e : Int} {k v : Int} (hP : pSt S D X t n hs r q) (hE : pIn e r) (t0 : 0 ≤ t) (ht2 : t + 200 ≤ 60000) (hk : 0 ≤ k ∧ k < r 2) (hv : v ≠ 0 ∧ -1000 ≤ v ∧ v ≤ 1000) (hw : r (68 + 8 * k) - r (69 + 8 * k) - r (70 + 8 * k) < v) (hp : 100 ≤ r (71 + 8 * k)) : JM G yL_cargo cL_cargo 12 (some .boolean) (d + 7) (0, 0) S D [.inr (.inr (some X)), .inl k, .inl v, .inl 1] (jOK S X (t + 200) e (r 1) (r 2)) := by
  have ht2 : t + 100 ≤ 60000 := by omega
  have ht : t ≤ 60000 := by omega
  have hB := hP.1
  have bk := hB.1
  have hI := hP.2.1.2.2.2.1
  have b1 := hI.1
  obtain ⟨bk0, q0, q1, q2, q3, q4, q5, q6, q7, q8, q9, q10, q11, bp, q13, q14, q15, q16, q17, q18⟩ := hI.bB ht hk
  have pb := hI.pB ht bp
  have hz : zLoad k v r = (-100000003, none, 4) := by unfold zLoad; rw [if_pos hk, if_pos hv, if_pos hp]
  show JX _ _ _ _ _ _ _ _ _ _ _ [_, _, _, _, _, _, _, _, _, _, _, _] _ _
  refine x_aload_n dL_cargo_0 rfl ?_
  refine x_iload_n dL_cargo_1 rfl ?_
  refine x_iconst dL_cargo_2 ?_
  refine c_RL_22d dL_cargo_3 rfl (tb_5 hP ht hk) bk (Nat.le_of_ble_eq_true rfl) (Nat.le_of_ble_eq_true rfl) ⟨Nat.le_refl _, Nat.le_refl _⟩ ?_
  refine x_istore dL_cargo_6 (by decide) ?_
  show JX _ _ _ _ _ _ _ _ _ _ _ [_, _, _, _, _, _, _, _, _, _, _, _] _ _
  refine x_aload_n dL_cargo_8 rfl ?_
  refine x_iload_n dL_cargo_9 rfl ?_
  refine x_iload_n dL_cargo_10 rfl ?_
  refine x_if_eq (tgt := 18) dL_cargo_11 (by decide) ⟨by omega, by omega⟩ (fun h => absurd h (by omega)) (fun hb11 => ?_)
  refine x_iconst dL_cargo_14 ?_
  refine x_goto (tgt := 19) dL_cargo_15 (by decide) ?_
  refine c_RL_22d dL_cargo_19 rfl (tb_3 hP ht hk) bk (Nat.le_of_ble_eq_true rfl) (Nat.le_of_ble_eq_true rfl) ⟨Nat.le_refl _, Nat.le_refl _⟩ ?_
  refine x_istore dL_cargo_22 (by decide) ?_
  show JX _ _ _ _ _ _ _ _ _ _ _ [_, _, _, _, _, _, _, _, _, _, _, _] _ _
  refine x_aload_n dL_cargo_24 rfl ?_
  refine x_iload_n dL_cargo_25 rfl ?_
  refine x_iconst dL_cargo_26 ?_
  refine c_RL_22d dL_cargo_27 rfl (tb_1 hP ht hk) bk (Nat.le_of_ble_eq_true rfl) (Nat.le_of_ble_eq_true rfl) ⟨Nat.le_refl _, Nat.le_refl _⟩ ?_
  refine x_istore dL_cargo_30 (by decide) ?_
  show JX _ _ _ _ _ _ _ _ _ _ _ [_, _, _, _, _, _, _, _, _, _, _, _] _ _
  refine x_aload_n dL_cargo_32 rfl ?_
  refine x_iload_n dL_cargo_33 rfl ?_
  refine x_bipush dL_cargo_34 (by decide) ?_
  refine c_RL_22d dL_cargo_36 rfl (tb_7 hP ht hk) bk (Nat.le_of_ble_eq_true rfl) (Nat.le_of_ble_eq_true rfl) ⟨Nat.le_refl _, Nat.le_refl _⟩ ?_
  refine x_istore dL_cargo_39 (by decide) ?_
  show JX _ _ _ _ _ _ _ _ _ _ _ [_, _, _, _, _, _, _, _, _, _, _, _] _ _
  refine x_iload_n dL_cargo_41 rfl ?_
  refine x_iload dL_cargo_42 rfl ?_
  refine x_ic_gt (tgt := 69) dL_cargo_44 (by decide) ⟨by omega, by omega⟩ ⟨by omega, by omega⟩ (fun hb44 => ?_) (fun h => (h (by omega)).elim)
  refine x_iconst dL_cargo_69 ?_
  refine x_goto (tgt := 74) dL_cargo_70 (by decide) ?_
  refine x_istore dL_cargo_74 (by decide) ?_
  show JX _ _ _ _ _ _ _ _ _ _ _ [_, _, _, _, _, _, _, _, _, _, _, _] _ _
  refine x_iload_n dL_cargo_76 rfl ?_
  refine x_if_eq (tgt := 91) dL_cargo_77 (by decide) ⟨by omega, by omega⟩ (fun h => absurd h (by omega)) (fun hb77 => ?_)
  refine x_iload dL_cargo_80 rfl ?_
  refine x_bipush dL_cargo_82 (by decide) ?_
  refine x_ic_lt (tgt := 91) dL_cargo_84 (by decide) ⟨by omega, by omega⟩ ⟨by omega, by omega⟩ (fun h => absurd h (by omega)) (fun hb84 => ?_)
  refine x_iconst dL_cargo_87 ?_
  refine x_goto (tgt := 102) dL_cargo_88 (by decide) ?_
  refine x_istore dL_cargo_102 (by decide) ?_
  show JX _ _ _ _ _ _ _ _ _ _ _ [_, _, _, _, _, _, _, _, _, _, _, _] _ _
  refine x_iload_n dL_cargo_104 rfl ?_
  refine x_if_eq (tgt := 117) dL_cargo_105 (by decide) ⟨by omega, by omega⟩ (fun h => absurd h (by omega)) (fun hb105 => ?_)
  refine x_aload_n dL_cargo_108 rfl ?_
  refine x_iload_n dL_cargo_109 rfl ?_
  refine x_iload_n dL_cargo_110 rfl ?_
  refine c_RL_72p dL_cargo_111 rfl (kX7_load hP.1 (Or.inl rfl) hP.2.1 ht2 ⟨by omega, by omega⟩ ⟨by omega, by omega⟩) bk (Nat.le_of_ble_eq_true rfl) (Nat.le_of_ble_eq_true rfl) ⟨Nat.le_refl _, Nat.le_refl _⟩ (fun w2 D2 h2 => ?_)
  refine x_goto (tgt := 123) dL_cargo_114 (by decide) ?_
  obtain ⟨rfl, hP2⟩ := hP.ref hz (by decide) h2
  have hP3 := hP2.mono (show t + 100 ≤ t + 200 by omega)
  refine x_istore dL_cargo_123 (by decide) ?_
  show JX _ _ _ _ _ _ _ _ _ _ _ [_, _, _, _, _, _, _, _, _, _, _, _] _ _
  refine x_iload dL_cargo_125 rfl ?_
  refine x_if_le (tgt := 165) dL_cargo_127 (by decide) ⟨by omega, by omega⟩ (fun h => absurd h (by omega)) (fun hb127 => ?_)
  refine x_iload dL_cargo_130 rfl ?_
  refine x_ldc (e := -100000003) dL_cargo_132 ct_RL_59 (by decide) ?_
  refine x_ic_ne (tgt := 163) dL_cargo_134 (by decide) ⟨by omega, by omega⟩ ⟨by omega, by omega⟩ (fun h => absurd h (by omega)) (fun hb134 => ?_)
  refine x_aload_n dL_cargo_137 rfl ?_
  refine x_bipush dL_cargo_138 (by decide) ?_
  refine c_RL_18d dL_cargo_140 rfl (tn_7 hP2 ht2) bk (Nat.le_of_ble_eq_true rfl) (Nat.le_of_ble_eq_true rfl) ⟨Nat.le_refl _, Nat.le_refl _⟩ ?_
  refine x_iload dL_cargo_143 rfl ?_
  refine x_ic_ne (tgt := 163) dL_cargo_145 (by decide) ⟨by omega, by omega⟩ ⟨by omega, by omega⟩ (fun h => absurd h (by omega)) (fun hb145 => ?_)
  refine x_aload_n dL_cargo_148 rfl ?_
  refine x_iload_n dL_cargo_149 rfl ?_
  refine x_iconst dL_cargo_150 ?_
  refine c_RL_22d dL_cargo_151 rfl (tb_1 hP2 ht2 hk) bk (Nat.le_of_ble_eq_true rfl) (Nat.le_of_ble_eq_true rfl) ⟨Nat.le_refl _, Nat.le_refl _⟩ ?_
  refine x_iload dL_cargo_154 rfl ?_
  refine x_ic_ne (tgt := 163) dL_cargo_156 (by decide) ⟨by omega, by omega⟩ ⟨by omega, by omega⟩ (fun h => absurd h (by omega)) (fun hb156 => ?_)
  refine x_iconst dL_cargo_159 ?_
  refine x_goto (tgt := 164) dL_cargo_160 (by decide) ?_
  exact x_ireturn dL_cargo_164 rfl (jbool (by first | exact Or.inl rfl | exact Or.inr rfl)).1 ⟨Nat.le_refl _, Nat.le_refl _⟩ ⟨rfl, _, rfl, rfl, _, _, _, _, hP3, hE, rfl, rfl⟩
theorem cargo_14b {G : JG} {S : JS} {D : JD} {d : Nat} {X t n q : Int} {hs : Int → Int → Int} {r : Int → Int} {e : Int} {k v : Int} (hP : pSt S D X t n hs r q) (hE : pIn e r) (t0 : 0 ≤ t) (ht2 : t + 200 ≤ 60000) (hk : 0 ≤ k ∧ k < r 2) (hv : v ≠ 0 ∧ -1000 ≤ v ∧ v ≤ 1000) (hw0 : ¬ r (68 + 8 * k) - r (69 + 8 * k) - r (70 + 8 * k) < v) (hw : r (69 + 8 * k) + v < 0) (hp : 100 ≤ r (71 + 8 * k)) : JM G yL_cargo cL_cargo 12 (some .boolean) (d + 7) (0, 0) S D [.inr (.inr (some X)), .inl k, .inl v, .inl 1] (jOK S X (t + 200) e (r 1) (r 2)) := by
  have ht2 : t + 100 ≤ 60000 := by omega
  have ht : t ≤ 60000 := by omega
  have hB := hP.1
  have bk := hB.1
  have hI := hP.2.1.2.2.2.1
  have b1 := hI.1
  obtain ⟨bk0, q0, q1, q2, q3, q4, q5, q6, q7, q8, q9, q10, q11, bp, q13, q14, q15, q16, q17, q18⟩ := hI.bB ht hk
  have pb := hI.pB ht bp
  have hz : zLoad k v r = (-100000003, none, 4) := by unfold zLoad; rw [if_pos hk, if_pos hv, if_pos hp]
  show JX _ _ _ _ _ _ _ _ _ _ _ [_, _, _, _, _, _, _, _, _, _, _, _] _ _
  refine x_aload_n dL_cargo_0 rfl ?_
  refine x_iload_n dL_cargo_1 rfl ?_
  refine x_iconst dL_cargo_2 ?_
  refine c_RL_22d dL_cargo_3 rfl (tb_5 hP ht hk) bk (Nat.le_of_ble_eq_true rfl) (Nat.le_of_ble_eq_true rfl) ⟨Nat.le_refl _, Nat.le_refl _⟩ ?_
  refine x_istore dL_cargo_6 (by decide) ?_
  show JX _ _ _ _ _ _ _ _ _ _ _ [_, _, _, _, _, _, _, _, _, _, _, _] _ _
  refine x_aload_n dL_cargo_8 rfl ?_
  refine x_iload_n dL_cargo_9 rfl ?_
  refine x_iload_n dL_cargo_10 rfl ?_
  refine x_if_eq (tgt := 18) dL_cargo_11 (by decide) ⟨by omega, by omega⟩ (fun h => absurd h (by omega)) (fun hb11 => ?_)
  refine x_iconst dL_cargo_14 ?_
  refine x_goto (tgt := 19) dL_cargo_15 (by decide) ?_
  refine c_RL_22d dL_cargo_19 rfl (tb_3 hP ht hk) bk (Nat.le_of_ble_eq_true rfl) (Nat.le_of_ble_eq_true rfl) ⟨Nat.le_refl _, Nat.le_refl _⟩ ?_
  refine x_istore dL_cargo_22 (by decide) ?_
  show JX _ _ _ _ _ _ _ _ _ _ _ [_, _, _, _, _, _, _, _, _, _, _, _] _ _
  refine x_aload_n dL_cargo_24 rfl ?_
  refine x_iload_n dL_cargo_25 rfl ?_
  refine x_iconst dL_cargo_26 ?_
  refine c_RL_22d dL_cargo_27 rfl (tb_1 hP ht hk) bk (Nat.le_of_ble_eq_true rfl) (Nat.le_of_ble_eq_true rfl) ⟨Nat.le_refl _, Nat.le_refl _⟩ ?_
  refine x_istore dL_cargo_30 (by decide) ?_
  show JX _ _ _ _ _ _ _ _ _ _ _ [_, _, _, _, _, _, _, _, _, _, _, _] _ _
  refine x_aload_n dL_cargo_32 rfl ?_
  refine x_iload_n dL_cargo_33 rfl ?_
  refine x_bipush dL_cargo_34 (by decide) ?_
  refine c_RL_22d dL_cargo_36 rfl (tb_7 hP ht hk) bk (Nat.le_of_ble_eq_true rfl) (Nat.le_of_ble_eq_true rfl) ⟨Nat.le_refl _, Nat.le_refl _⟩ ?_
  refine x_istore dL_cargo_39 (by decide) ?_
  show JX _ _ _ _ _ _ _ _ _ _ _ [_, _, _, _, _, _, _, _, _, _, _, _] _ _
  refine x_iload_n dL_cargo_41 rfl ?_
  refine x_iload dL_cargo_42 rfl ?_
  refine x_ic_gt (tgt := 69) dL_cargo_44 (by decide) ⟨by omega, by omega⟩ ⟨by omega, by omega⟩ (fun h => absurd h (by omega)) (fun hb44 => ?_)
  refine x_iload dL_cargo_47 rfl ?_
  refine x_iload_n dL_cargo_49 rfl ?_
  refine x_iadd dL_cargo_50 ?_
  refine x_if_lt (tgt := 69) dL_cargo_51 (by decide) ⟨by omega, by omega⟩ (fun hb51 => ?_) (fun h => (h (by omega)).elim)
  refine x_iconst dL_cargo_69 ?_
  refine x_goto (tgt := 74) dL_cargo_70 (by decide) ?_
  refine x_istore dL_cargo_74 (by decide) ?_
  show JX _ _ _ _ _ _ _ _ _ _ _ [_, _, _, _, _, _, _, _, _, _, _, _] _ _
  refine x_iload_n dL_cargo_76 rfl ?_
  refine x_if_eq (tgt := 91) dL_cargo_77 (by decide) ⟨by omega, by omega⟩ (fun h => absurd h (by omega)) (fun hb77 => ?_)
  refine x_iload dL_cargo_80 rfl ?_
  refine x_bipush dL_cargo_82 (by decide) ?_
  refine x_ic_lt (tgt := 91) dL_cargo_84 (by decide) ⟨by omega, by omega⟩ ⟨by omega, by omega⟩ (fun h => absurd h (by omega)) (fun hb84 => ?_)
  refine x_iconst dL_cargo_87 ?_
  refine x_goto (tgt := 102) dL_cargo_88 (by decide) ?_
  refine x_istore dL_cargo_102 (by decide) ?_
  show JX _ _ _ _ _ _ _ _ _ _ _ [_, _, _, _, _, _, _, _, _, _, _, _] _ _
  refine x_iload_n dL_cargo_104 rfl ?_
  refine x_if_eq (tgt := 117) dL_cargo_105 (by decide) ⟨by omega, by omega⟩ (fun h => absurd h (by omega)) (fun hb105 => ?_)
  refine x_aload_n dL_cargo_108 rfl ?_
  refine x_iload_n dL_cargo_109 rfl ?_
  refine x_iload_n dL_cargo_110 rfl ?_
  refine c_RL_72p dL_cargo_111 rfl (kX7_load hP.1 (Or.inl rfl) hP.2.1 ht2 ⟨by omega, by omega⟩ ⟨by omega, by omega⟩) bk (Nat.le_of_ble_eq_true rfl) (Nat.le_of_ble_eq_true rfl) ⟨Nat.le_refl _, Nat.le_refl _⟩ (fun w2 D2 h2 => ?_)
  refine x_goto (tgt := 123) dL_cargo_114 (by decide) ?_
  obtain ⟨rfl, hP2⟩ := hP.ref hz (by decide) h2
  have hP3 := hP2.mono (show t + 100 ≤ t + 200 by omega)
  refine x_istore dL_cargo_123 (by decide) ?_
  show JX _ _ _ _ _ _ _ _ _ _ _ [_, _, _, _, _, _, _, _, _, _, _, _] _ _
  refine x_iload dL_cargo_125 rfl ?_
  refine x_if_le (tgt := 165) dL_cargo_127 (by decide) ⟨by omega, by omega⟩ (fun h => absurd h (by omega)) (fun hb127 => ?_)
  refine x_iload dL_cargo_130 rfl ?_
  refine x_ldc (e := -100000003) dL_cargo_132 ct_RL_59 (by decide) ?_
  refine x_ic_ne (tgt := 163) dL_cargo_134 (by decide) ⟨by omega, by omega⟩ ⟨by omega, by omega⟩ (fun h => absurd h (by omega)) (fun hb134 => ?_)
  refine x_aload_n dL_cargo_137 rfl ?_
  refine x_bipush dL_cargo_138 (by decide) ?_
  refine c_RL_18d dL_cargo_140 rfl (tn_7 hP2 ht2) bk (Nat.le_of_ble_eq_true rfl) (Nat.le_of_ble_eq_true rfl) ⟨Nat.le_refl _, Nat.le_refl _⟩ ?_
  refine x_iload dL_cargo_143 rfl ?_
  refine x_ic_ne (tgt := 163) dL_cargo_145 (by decide) ⟨by omega, by omega⟩ ⟨by omega, by omega⟩ (fun h => absurd h (by omega)) (fun hb145 => ?_)
  refine x_aload_n dL_cargo_148 rfl ?_
  refine x_iload_n dL_cargo_149 rfl ?_
  refine x_iconst dL_cargo_150 ?_
  refine c_RL_22d dL_cargo_151 rfl (tb_1 hP2 ht2 hk) bk (Nat.le_of_ble_eq_true rfl) (Nat.le_of_ble_eq_true rfl) ⟨Nat.le_refl _, Nat.le_refl _⟩ ?_
  refine x_iload dL_cargo_154 rfl ?_
  refine x_ic_ne (tgt := 163) dL_cargo_156 (by decide) ⟨by omega, by omega⟩ ⟨by omega, by omega⟩ (fun h => absurd h (by omega)) (fun hb156 => ?_)
  refine x_iconst dL_cargo_159 ?_
  refine x_goto (tgt := 164) dL_cargo_160 (by decide) ?_
  exact x_ireturn dL_cargo_164 rfl (jbool (by first | exact Or.inl rfl | exact Or.inr rfl)).1 ⟨Nat.le_refl _, Nat.le_refl _⟩ ⟨rfl, _, rfl, rfl, _, _, _, _, hP3, hE, rfl, rfl⟩
theorem cargo_14c {G : JG} {S : JS} {D : JD} {d : Nat} {X t n q : Int} {hs : Int → Int → Int} {r : Int → Int} {e : Int} {k v : Int} (hP : pSt S D X t n hs r q) (hE : pIn e r) (t0 : 0 ≤ t) (ht2 : t + 200 ≤ 60000) (hk : 0 ≤ k ∧ k < r 2) (hv : v ≠ 0 ∧ -1000 ≤ v ∧ v ≤ 1000) (hw0 : ¬ r (68 + 8 * k) - r (69 + 8 * k) - r (70 + 8 * k) < v) (hw1 : ¬ r (69 + 8 * k) + v < 0) (hp : 100 ≤ r (71 + 8 * k)) : JM G yL_cargo cL_cargo 12 (some .boolean) (d + 7) (0, 0) S D [.inr (.inr (some X)), .inl k, .inl v, .inl 1] (jOK S X (t + 200) e (r 1) (r 2)) := by
  have ht2 : t + 100 ≤ 60000 := by omega
  have ht : t ≤ 60000 := by omega
  have hB := hP.1
  have bk := hB.1
  have hI := hP.2.1.2.2.2.1
  have b1 := hI.1
  obtain ⟨bk0, q0, q1, q2, q3, q4, q5, q6, q7, q8, q9, q10, q11, bp, q13, q14, q15, q16, q17, q18⟩ := hI.bB ht hk
  have pb := hI.pB ht bp
  have hz : zLoad k v r = (-100000003, none, 4) := by unfold zLoad; rw [if_pos hk, if_pos hv, if_pos hp]
  show JX _ _ _ _ _ _ _ _ _ _ _ [_, _, _, _, _, _, _, _, _, _, _, _] _ _
  refine x_aload_n dL_cargo_0 rfl ?_
  refine x_iload_n dL_cargo_1 rfl ?_
  refine x_iconst dL_cargo_2 ?_
  refine c_RL_22d dL_cargo_3 rfl (tb_5 hP ht hk) bk (Nat.le_of_ble_eq_true rfl) (Nat.le_of_ble_eq_true rfl) ⟨Nat.le_refl _, Nat.le_refl _⟩ ?_
  refine x_istore dL_cargo_6 (by decide) ?_
  show JX _ _ _ _ _ _ _ _ _ _ _ [_, _, _, _, _, _, _, _, _, _, _, _] _ _
  refine x_aload_n dL_cargo_8 rfl ?_
  refine x_iload_n dL_cargo_9 rfl ?_
  refine x_iload_n dL_cargo_10 rfl ?_
  refine x_if_eq (tgt := 18) dL_cargo_11 (by decide) ⟨by omega, by omega⟩ (fun h => absurd h (by omega)) (fun hb11 => ?_)
  refine x_iconst dL_cargo_14 ?_
  refine x_goto (tgt := 19) dL_cargo_15 (by decide) ?_
  refine c_RL_22d dL_cargo_19 rfl (tb_3 hP ht hk) bk (Nat.le_of_ble_eq_true rfl) (Nat.le_of_ble_eq_true rfl) ⟨Nat.le_refl _, Nat.le_refl _⟩ ?_
  refine x_istore dL_cargo_22 (by decide) ?_
  show JX _ _ _ _ _ _ _ _ _ _ _ [_, _, _, _, _, _, _, _, _, _, _, _] _ _
  refine x_aload_n dL_cargo_24 rfl ?_
  refine x_iload_n dL_cargo_25 rfl ?_
  refine x_iconst dL_cargo_26 ?_
  refine c_RL_22d dL_cargo_27 rfl (tb_1 hP ht hk) bk (Nat.le_of_ble_eq_true rfl) (Nat.le_of_ble_eq_true rfl) ⟨Nat.le_refl _, Nat.le_refl _⟩ ?_
  refine x_istore dL_cargo_30 (by decide) ?_
  show JX _ _ _ _ _ _ _ _ _ _ _ [_, _, _, _, _, _, _, _, _, _, _, _] _ _
  refine x_aload_n dL_cargo_32 rfl ?_
  refine x_iload_n dL_cargo_33 rfl ?_
  refine x_bipush dL_cargo_34 (by decide) ?_
  refine c_RL_22d dL_cargo_36 rfl (tb_7 hP ht hk) bk (Nat.le_of_ble_eq_true rfl) (Nat.le_of_ble_eq_true rfl) ⟨Nat.le_refl _, Nat.le_refl _⟩ ?_
  refine x_istore dL_cargo_39 (by decide) ?_
  show JX _ _ _ _ _ _ _ _ _ _ _ [_, _, _, _, _, _, _, _, _, _, _, _] _ _
  refine x_iload_n dL_cargo_41 rfl ?_
  refine x_iload dL_cargo_42 rfl ?_
  refine x_ic_gt (tgt := 69) dL_cargo_44 (by decide) ⟨by omega, by omega⟩ ⟨by omega, by omega⟩ (fun h => absurd h (by omega)) (fun hb44 => ?_)
  refine x_iload dL_cargo_47 rfl ?_
  refine x_iload_n dL_cargo_49 rfl ?_
  refine x_iadd dL_cargo_50 ?_
  refine x_if_lt (tgt := 69) dL_cargo_51 (by decide) ⟨by omega, by omega⟩ (fun h => absurd h (by omega)) (fun hb51 => ?_)
  refine x_iload_n dL_cargo_54 rfl ?_
  refine x_if_ne (tgt := 73) dL_cargo_55 (by decide) ⟨by omega, by omega⟩ (fun hb55 => ?_) (fun h => (h (by omega)).elim)
  refine x_iconst dL_cargo_73 ?_
  refine x_istore dL_cargo_74 (by decide) ?_
  show JX _ _ _ _ _ _ _ _ _ _ _ [_, _, _, _, _, _, _, _, _, _, _, _] _ _
  refine x_iload_n dL_cargo_76 rfl ?_
  refine x_if_eq (tgt := 91) dL_cargo_77 (by decide) ⟨by omega, by omega⟩ (fun h => absurd h (by omega)) (fun hb77 => ?_)
  refine x_iload dL_cargo_80 rfl ?_
  refine x_bipush dL_cargo_82 (by decide) ?_
  refine x_ic_lt (tgt := 91) dL_cargo_84 (by decide) ⟨by omega, by omega⟩ ⟨by omega, by omega⟩ (fun h => absurd h (by omega)) (fun hb84 => ?_)
  refine x_iconst dL_cargo_87 ?_
  refine x_goto (tgt := 102) dL_cargo_88 (by decide) ?_
  refine x_istore dL_cargo_102 (by decide) ?_
  show JX _ _ _ _ _ _ _ _ _ _ _ [_, _, _, _, _, _, _, _, _, _, _, _] _ _
  refine x_iload_n dL_cargo_104 rfl ?_
  refine x_if_eq (tgt := 117) dL_cargo_105 (by decide) ⟨by omega, by omega⟩ (fun h => absurd h (by omega)) (fun hb105 => ?_)
  refine x_aload_n dL_cargo_108 rfl ?_
  refine x_iload_n dL_cargo_109 rfl ?_
  refine x_iload_n dL_cargo_110 rfl ?_
  refine c_RL_72p dL_cargo_111 rfl (kX7_load hP.1 (Or.inl rfl) hP.2.1 ht2 ⟨by omega, by omega⟩ ⟨by omega, by omega⟩) bk (Nat.le_of_ble_eq_true rfl) (Nat.le_of_ble_eq_true rfl) ⟨Nat.le_refl _, Nat.le_refl _⟩ (fun w2 D2 h2 => ?_)
  refine x_goto (tgt := 123) dL_cargo_114 (by decide) ?_
  obtain ⟨rfl, hP2⟩ := hP.ref hz (by decide) h2
  have hP3 := hP2.mono (show t + 100 ≤ t + 200 by omega)
  refine x_istore dL_cargo_123 (by decide) ?_
  show JX _ _ _ _ _ _ _ _ _ _ _ [_, _, _, _, _, _, _, _, _, _, _, _] _ _
  refine x_iload dL_cargo_125 rfl ?_
  refine x_if_le (tgt := 165) dL_cargo_127 (by decide) ⟨by omega, by omega⟩ (fun h => absurd h (by omega)) (fun hb127 => ?_)
  refine x_iload dL_cargo_130 rfl ?_
  refine x_ldc (e := -100000003) dL_cargo_132 ct_RL_59 (by decide) ?_
  refine x_ic_ne (tgt := 163) dL_cargo_134 (by decide) ⟨by omega, by omega⟩ ⟨by omega, by omega⟩ (fun h => absurd h (by omega)) (fun hb134 => ?_)
  refine x_aload_n dL_cargo_137 rfl ?_
  refine x_bipush dL_cargo_138 (by decide) ?_
  refine c_RL_18d dL_cargo_140 rfl (tn_7 hP2 ht2) bk (Nat.le_of_ble_eq_true rfl) (Nat.le_of_ble_eq_true rfl) ⟨Nat.le_refl _, Nat.le_refl _⟩ ?_
  refine x_iload dL_cargo_143 rfl ?_
  refine x_ic_ne (tgt := 163) dL_cargo_145 (by decide) ⟨by omega, by omega⟩ ⟨by omega, by omega⟩ (fun h => absurd h (by omega)) (fun hb145 => ?_)
  refine x_aload_n dL_cargo_148 rfl ?_
  refine x_iload_n dL_cargo_149 rfl ?_
  refine x_iconst dL_cargo_150 ?_
  refine c_RL_22d dL_cargo_151 rfl (tb_1 hP2 ht2 hk) bk (Nat.le_of_ble_eq_true rfl) (Nat.le_of_ble_eq_true rfl) ⟨Nat.le_refl _, Nat.le_refl _⟩ ?_
  refine x_iload dL_cargo_154 rfl ?_
  refine x_ic_ne (tgt := 163) dL_cargo_156 (by decide) ⟨by omega, by omega⟩ ⟨by omega, by omega⟩ (fun h => absurd h (by omega)) (fun hb156 => ?_)
  refine x_iconst dL_cargo_159 ?_
  refine x_goto (tgt := 164) dL_cargo_160 (by decide) ?_
  exact x_ireturn dL_cargo_164 rfl (jbool (by first | exact Or.inl rfl | exact Or.inr rfl)).1 ⟨Nat.le_refl _, Nat.le_refl _⟩ ⟨rfl, _, rfl, rfl, _, _, _, _, hP3, hE, rfl, rfl⟩
theorem cargo_18a {G : JG} {S : JS} {D : JD} {d : Nat} {X t n q : Int} {hs : Int → Int → Int} {r : Int → Int} {e : Int} {k v : Int} (hP : pSt S D X t n hs r q) (hE : pIn e r) (t0 : 0 ≤ t) (ht2 : t + 200 ≤ 60000) (hk : 0 ≤ k ∧ k < r 2) (hv : v ≠ 0 ∧ -1000 ≤ v ∧ v ≤ 1000) (hw : r (68 + 8 * k) - r (69 + 8 * k) - r (70 + 8 * k) < v) (hp : ¬ 100 ≤ r (71 + 8 * k)) : JM G yL_cargo cL_cargo 12 (some .boolean) (d + 7) (0, 0) S D [.inr (.inr (some X)), .inl k, .inl v, .inl 1] (jOK S X (t + 200) e (r 1) (r 2)) := by
  have ht2 : t + 100 ≤ 60000 := by omega
  have ht : t ≤ 60000 := by omega
  have hB := hP.1
  have bk := hB.1
  have hI := hP.2.1.2.2.2.1
  have b1 := hI.1
  obtain ⟨bk0, q0, q1, q2, q3, q4, q5, q6, q7, q8, q9, q10, q11, bp, q13, q14, q15, q16, q17, q18⟩ := hI.bB ht hk
  have pb := hI.pB ht bp
  have hz : zLoad k v r = (-100000003, none, 8) := by unfold zLoad; rw [if_pos hk, if_pos hv, if_neg hp, if_neg (by omega)]
  show JX _ _ _ _ _ _ _ _ _ _ _ [_, _, _, _, _, _, _, _, _, _, _, _] _ _
  refine x_aload_n dL_cargo_0 rfl ?_
  refine x_iload_n dL_cargo_1 rfl ?_
  refine x_iconst dL_cargo_2 ?_
  refine c_RL_22d dL_cargo_3 rfl (tb_5 hP ht hk) bk (Nat.le_of_ble_eq_true rfl) (Nat.le_of_ble_eq_true rfl) ⟨Nat.le_refl _, Nat.le_refl _⟩ ?_
  refine x_istore dL_cargo_6 (by decide) ?_
  show JX _ _ _ _ _ _ _ _ _ _ _ [_, _, _, _, _, _, _, _, _, _, _, _] _ _
  refine x_aload_n dL_cargo_8 rfl ?_
  refine x_iload_n dL_cargo_9 rfl ?_
  refine x_iload_n dL_cargo_10 rfl ?_
  refine x_if_eq (tgt := 18) dL_cargo_11 (by decide) ⟨by omega, by omega⟩ (fun h => absurd h (by omega)) (fun hb11 => ?_)
  refine x_iconst dL_cargo_14 ?_
  refine x_goto (tgt := 19) dL_cargo_15 (by decide) ?_
  refine c_RL_22d dL_cargo_19 rfl (tb_3 hP ht hk) bk (Nat.le_of_ble_eq_true rfl) (Nat.le_of_ble_eq_true rfl) ⟨Nat.le_refl _, Nat.le_refl _⟩ ?_
  refine x_istore dL_cargo_22 (by decide) ?_
  show JX _ _ _ _ _ _ _ _ _ _ _ [_, _, _, _, _, _, _, _, _, _, _, _] _ _
  refine x_aload_n dL_cargo_24 rfl ?_
  refine x_iload_n dL_cargo_25 rfl ?_
  refine x_iconst dL_cargo_26 ?_
  refine c_RL_22d dL_cargo_27 rfl (tb_1 hP ht hk) bk (Nat.le_of_ble_eq_true rfl) (Nat.le_of_ble_eq_true rfl) ⟨Nat.le_refl _, Nat.le_refl _⟩ ?_
  refine x_istore dL_cargo_30 (by decide) ?_
  show JX _ _ _ _ _ _ _ _ _ _ _ [_, _, _, _, _, _, _, _, _, _, _, _] _ _
  refine x_aload_n dL_cargo_32 rfl ?_
  refine x_iload_n dL_cargo_33 rfl ?_
  refine x_bipush dL_cargo_34 (by decide) ?_
  refine c_RL_22d dL_cargo_36 rfl (tb_7 hP ht hk) bk (Nat.le_of_ble_eq_true rfl) (Nat.le_of_ble_eq_true rfl) ⟨Nat.le_refl _, Nat.le_refl _⟩ ?_
  refine x_istore dL_cargo_39 (by decide) ?_
  show JX _ _ _ _ _ _ _ _ _ _ _ [_, _, _, _, _, _, _, _, _, _, _, _] _ _
  refine x_iload_n dL_cargo_41 rfl ?_
  refine x_iload dL_cargo_42 rfl ?_
  refine x_ic_gt (tgt := 69) dL_cargo_44 (by decide) ⟨by omega, by omega⟩ ⟨by omega, by omega⟩ (fun hb44 => ?_) (fun h => (h (by omega)).elim)
  refine x_iconst dL_cargo_69 ?_
  refine x_goto (tgt := 74) dL_cargo_70 (by decide) ?_
  refine x_istore dL_cargo_74 (by decide) ?_
  show JX _ _ _ _ _ _ _ _ _ _ _ [_, _, _, _, _, _, _, _, _, _, _, _] _ _
  refine x_iload_n dL_cargo_76 rfl ?_
  refine x_if_eq (tgt := 91) dL_cargo_77 (by decide) ⟨by omega, by omega⟩ (fun h => absurd h (by omega)) (fun hb77 => ?_)
  refine x_iload dL_cargo_80 rfl ?_
  refine x_bipush dL_cargo_82 (by decide) ?_
  refine x_ic_lt (tgt := 91) dL_cargo_84 (by decide) ⟨by omega, by omega⟩ ⟨by omega, by omega⟩ (fun hb84 => ?_) (fun h => (h (by omega)).elim)
  refine x_iload dL_cargo_91 rfl ?_
  refine x_if_eq (tgt := 101) dL_cargo_93 (by decide) ⟨by omega, by omega⟩ (fun h => absurd h (by omega)) (fun hb93 => ?_)
  refine x_bipush dL_cargo_96 (by decide) ?_
  refine x_goto (tgt := 102) dL_cargo_98 (by decide) ?_
  refine x_istore dL_cargo_102 (by decide) ?_
  show JX _ _ _ _ _ _ _ _ _ _ _ [_, _, _, _, _, _, _, _, _, _, _, _] _ _
  refine x_iload_n dL_cargo_104 rfl ?_
  refine x_if_eq (tgt := 117) dL_cargo_105 (by decide) ⟨by omega, by omega⟩ (fun h => absurd h (by omega)) (fun hb105 => ?_)
  refine x_aload_n dL_cargo_108 rfl ?_
  refine x_iload_n dL_cargo_109 rfl ?_
  refine x_iload_n dL_cargo_110 rfl ?_
  refine c_RL_72p dL_cargo_111 rfl (kX7_load hP.1 (Or.inl rfl) hP.2.1 ht2 ⟨by omega, by omega⟩ ⟨by omega, by omega⟩) bk (Nat.le_of_ble_eq_true rfl) (Nat.le_of_ble_eq_true rfl) ⟨Nat.le_refl _, Nat.le_refl _⟩ (fun w2 D2 h2 => ?_)
  refine x_goto (tgt := 123) dL_cargo_114 (by decide) ?_
  obtain ⟨rfl, hP2⟩ := hP.ref hz (by decide) h2
  have hP3 := hP2.mono (show t + 100 ≤ t + 200 by omega)
  refine x_istore dL_cargo_123 (by decide) ?_
  show JX _ _ _ _ _ _ _ _ _ _ _ [_, _, _, _, _, _, _, _, _, _, _, _] _ _
  refine x_iload dL_cargo_125 rfl ?_
  refine x_if_le (tgt := 165) dL_cargo_127 (by decide) ⟨by omega, by omega⟩ (fun h => absurd h (by omega)) (fun hb127 => ?_)
  refine x_iload dL_cargo_130 rfl ?_
  refine x_ldc (e := -100000003) dL_cargo_132 ct_RL_59 (by decide) ?_
  refine x_ic_ne (tgt := 163) dL_cargo_134 (by decide) ⟨by omega, by omega⟩ ⟨by omega, by omega⟩ (fun h => absurd h (by omega)) (fun hb134 => ?_)
  refine x_aload_n dL_cargo_137 rfl ?_
  refine x_bipush dL_cargo_138 (by decide) ?_
  refine c_RL_18d dL_cargo_140 rfl (tn_7 hP2 ht2) bk (Nat.le_of_ble_eq_true rfl) (Nat.le_of_ble_eq_true rfl) ⟨Nat.le_refl _, Nat.le_refl _⟩ ?_
  refine x_iload dL_cargo_143 rfl ?_
  refine x_ic_ne (tgt := 163) dL_cargo_145 (by decide) ⟨by omega, by omega⟩ ⟨by omega, by omega⟩ (fun h => absurd h (by omega)) (fun hb145 => ?_)
  refine x_aload_n dL_cargo_148 rfl ?_
  refine x_iload_n dL_cargo_149 rfl ?_
  refine x_iconst dL_cargo_150 ?_
  refine c_RL_22d dL_cargo_151 rfl (tb_1 hP2 ht2 hk) bk (Nat.le_of_ble_eq_true rfl) (Nat.le_of_ble_eq_true rfl) ⟨Nat.le_refl _, Nat.le_refl _⟩ ?_
  refine x_iload dL_cargo_154 rfl ?_
  refine x_ic_ne (tgt := 163) dL_cargo_156 (by decide) ⟨by omega, by omega⟩ ⟨by omega, by omega⟩ (fun h => absurd h (by omega)) (fun hb156 => ?_)
  refine x_iconst dL_cargo_159 ?_
  refine x_goto (tgt := 164) dL_cargo_160 (by decide) ?_
  exact x_ireturn dL_cargo_164 rfl (jbool (by first | exact Or.inl rfl | exact Or.inr rfl)).1 ⟨Nat.le_refl _, Nat.le_refl _⟩ ⟨rfl, _, rfl, rfl, _, _, _, _, hP3, hE, rfl, rfl⟩
theorem cargo_18b {G : JG} {S : JS} {D : JD} {d : Nat} {X t n q : Int} {hs : Int → Int → Int} {r : Int → Int} {e : Int} {k v : Int} (hP : pSt S D X t n hs r q) (hE : pIn e r) (t0 : 0 ≤ t) (ht2 : t + 200 ≤ 60000) (hk : 0 ≤ k ∧ k < r 2) (hv : v ≠ 0 ∧ -1000 ≤ v ∧ v ≤ 1000) (hw0 : ¬ r (68 + 8 * k) - r (69 + 8 * k) - r (70 + 8 * k) < v) (hw : r (69 + 8 * k) + v < 0) (hp : ¬ 100 ≤ r (71 + 8 * k)) : JM G yL_cargo cL_cargo 12 (some .boolean) (d + 7) (0, 0) S D [.inr (.inr (some X)), .inl k, .inl v, .inl 1] (jOK S X (t + 200) e (r 1) (r 2)) := by
  have ht2 : t + 100 ≤ 60000 := by omega
  have ht : t ≤ 60000 := by omega
  have hB := hP.1
  have bk := hB.1
  have hI := hP.2.1.2.2.2.1
  have b1 := hI.1
  obtain ⟨bk0, q0, q1, q2, q3, q4, q5, q6, q7, q8, q9, q10, q11, bp, q13, q14, q15, q16, q17, q18⟩ := hI.bB ht hk
  have pb := hI.pB ht bp
  have hz : zLoad k v r = (-100000003, none, 8) := by unfold zLoad; rw [if_pos hk, if_pos hv, if_neg hp, if_neg (by omega)]
  show JX _ _ _ _ _ _ _ _ _ _ _ [_, _, _, _, _, _, _, _, _, _, _, _] _ _
  refine x_aload_n dL_cargo_0 rfl ?_
  refine x_iload_n dL_cargo_1 rfl ?_
  refine x_iconst dL_cargo_2 ?_
  refine c_RL_22d dL_cargo_3 rfl (tb_5 hP ht hk) bk (Nat.le_of_ble_eq_true rfl) (Nat.le_of_ble_eq_true rfl) ⟨Nat.le_refl _, Nat.le_refl _⟩ ?_
  refine x_istore dL_cargo_6 (by decide) ?_
  show JX _ _ _ _ _ _ _ _ _ _ _ [_, _, _, _, _, _, _, _, _, _, _, _] _ _
  refine x_aload_n dL_cargo_8 rfl ?_
  refine x_iload_n dL_cargo_9 rfl ?_
  refine x_iload_n dL_cargo_10 rfl ?_
  refine x_if_eq (tgt := 18) dL_cargo_11 (by decide) ⟨by omega, by omega⟩ (fun h => absurd h (by omega)) (fun hb11 => ?_)
  refine x_iconst dL_cargo_14 ?_
  refine x_goto (tgt := 19) dL_cargo_15 (by decide) ?_
  refine c_RL_22d dL_cargo_19 rfl (tb_3 hP ht hk) bk (Nat.le_of_ble_eq_true rfl) (Nat.le_of_ble_eq_true rfl) ⟨Nat.le_refl _, Nat.le_refl _⟩ ?_
  refine x_istore dL_cargo_22 (by decide) ?_
  show JX _ _ _ _ _ _ _ _ _ _ _ [_, _, _, _, _, _, _, _, _, _, _, _] _ _
  refine x_aload_n dL_cargo_24 rfl ?_
  refine x_iload_n dL_cargo_25 rfl ?_
  refine x_iconst dL_cargo_26 ?_
  refine c_RL_22d dL_cargo_27 rfl (tb_1 hP ht hk) bk (Nat.le_of_ble_eq_true rfl) (Nat.le_of_ble_eq_true rfl) ⟨Nat.le_refl _, Nat.le_refl _⟩ ?_
  refine x_istore dL_cargo_30 (by decide) ?_
  show JX _ _ _ _ _ _ _ _ _ _ _ [_, _, _, _, _, _, _, _, _, _, _, _] _ _
  refine x_aload_n dL_cargo_32 rfl ?_
  refine x_iload_n dL_cargo_33 rfl ?_
  refine x_bipush dL_cargo_34 (by decide) ?_
  refine c_RL_22d dL_cargo_36 rfl (tb_7 hP ht hk) bk (Nat.le_of_ble_eq_true rfl) (Nat.le_of_ble_eq_true rfl) ⟨Nat.le_refl _, Nat.le_refl _⟩ ?_
  refine x_istore dL_cargo_39 (by decide) ?_
  show JX _ _ _ _ _ _ _ _ _ _ _ [_, _, _, _, _, _, _, _, _, _, _, _] _ _
  refine x_iload_n dL_cargo_41 rfl ?_
  refine x_iload dL_cargo_42 rfl ?_
  refine x_ic_gt (tgt := 69) dL_cargo_44 (by decide) ⟨by omega, by omega⟩ ⟨by omega, by omega⟩ (fun h => absurd h (by omega)) (fun hb44 => ?_)
  refine x_iload dL_cargo_47 rfl ?_
  refine x_iload_n dL_cargo_49 rfl ?_
  refine x_iadd dL_cargo_50 ?_
  refine x_if_lt (tgt := 69) dL_cargo_51 (by decide) ⟨by omega, by omega⟩ (fun hb51 => ?_) (fun h => (h (by omega)).elim)
  refine x_iconst dL_cargo_69 ?_
  refine x_goto (tgt := 74) dL_cargo_70 (by decide) ?_
  refine x_istore dL_cargo_74 (by decide) ?_
  show JX _ _ _ _ _ _ _ _ _ _ _ [_, _, _, _, _, _, _, _, _, _, _, _] _ _
  refine x_iload_n dL_cargo_76 rfl ?_
  refine x_if_eq (tgt := 91) dL_cargo_77 (by decide) ⟨by omega, by omega⟩ (fun h => absurd h (by omega)) (fun hb77 => ?_)
  refine x_iload dL_cargo_80 rfl ?_
  refine x_bipush dL_cargo_82 (by decide) ?_
  refine x_ic_lt (tgt := 91) dL_cargo_84 (by decide) ⟨by omega, by omega⟩ ⟨by omega, by omega⟩ (fun hb84 => ?_) (fun h => (h (by omega)).elim)
  refine x_iload dL_cargo_91 rfl ?_
  refine x_if_eq (tgt := 101) dL_cargo_93 (by decide) ⟨by omega, by omega⟩ (fun h => absurd h (by omega)) (fun hb93 => ?_)
  refine x_bipush dL_cargo_96 (by decide) ?_
  refine x_goto (tgt := 102) dL_cargo_98 (by decide) ?_
  refine x_istore dL_cargo_102 (by decide) ?_
  show JX _ _ _ _ _ _ _ _ _ _ _ [_, _, _, _, _, _, _, _, _, _, _, _] _ _
  refine x_iload_n dL_cargo_104 rfl ?_
  refine x_if_eq (tgt := 117) dL_cargo_105 (by decide) ⟨by omega, by omega⟩ (fun h => absurd h (by omega)) (fun hb105 => ?_)
  refine x_aload_n dL_cargo_108 rfl ?_
  refine x_iload_n dL_cargo_109 rfl ?_
  refine x_iload_n dL_cargo_110 rfl ?_
  refine c_RL_72p dL_cargo_111 rfl (kX7_load hP.1 (Or.inl rfl) hP.2.1 ht2 ⟨by omega, by omega⟩ ⟨by omega, by omega⟩) bk (Nat.le_of_ble_eq_true rfl) (Nat.le_of_ble_eq_true rfl) ⟨Nat.le_refl _, Nat.le_refl _⟩ (fun w2 D2 h2 => ?_)
  refine x_goto (tgt := 123) dL_cargo_114 (by decide) ?_
  obtain ⟨rfl, hP2⟩ := hP.ref hz (by decide) h2
  have hP3 := hP2.mono (show t + 100 ≤ t + 200 by omega)
  refine x_istore dL_cargo_123 (by decide) ?_
  show JX _ _ _ _ _ _ _ _ _ _ _ [_, _, _, _, _, _, _, _, _, _, _, _] _ _
  refine x_iload dL_cargo_125 rfl ?_
  refine x_if_le (tgt := 165) dL_cargo_127 (by decide) ⟨by omega, by omega⟩ (fun h => absurd h (by omega)) (fun hb127 => ?_)
  refine x_iload dL_cargo_130 rfl ?_
  refine x_ldc (e := -100000003) dL_cargo_132 ct_RL_59 (by decide) ?_
  refine x_ic_ne (tgt := 163) dL_cargo_134 (by decide) ⟨by omega, by omega⟩ ⟨by omega, by omega⟩ (fun h => absurd h (by omega)) (fun hb134 => ?_)
  refine x_aload_n dL_cargo_137 rfl ?_
  refine x_bipush dL_cargo_138 (by decide) ?_
  refine c_RL_18d dL_cargo_140 rfl (tn_7 hP2 ht2) bk (Nat.le_of_ble_eq_true rfl) (Nat.le_of_ble_eq_true rfl) ⟨Nat.le_refl _, Nat.le_refl _⟩ ?_
  refine x_iload dL_cargo_143 rfl ?_
  refine x_ic_ne (tgt := 163) dL_cargo_145 (by decide) ⟨by omega, by omega⟩ ⟨by omega, by omega⟩ (fun h => absurd h (by omega)) (fun hb145 => ?_)
  refine x_aload_n dL_cargo_148 rfl ?_
  refine x_iload_n dL_cargo_149 rfl ?_
  refine x_iconst dL_cargo_150 ?_
  refine c_RL_22d dL_cargo_151 rfl (tb_1 hP2 ht2 hk) bk (Nat.le_of_ble_eq_true rfl) (Nat.le_of_ble_eq_true rfl) ⟨Nat.le_refl _, Nat.le_refl _⟩ ?_
  refine x_iload dL_cargo_154 rfl ?_
  refine x_ic_ne (tgt := 163) dL_cargo_156 (by decide) ⟨by omega, by omega⟩ ⟨by omega, by omega⟩ (fun h => absurd h (by omega)) (fun hb156 => ?_)
  refine x_iconst dL_cargo_159 ?_
  refine x_goto (tgt := 164) dL_cargo_160 (by decide) ?_
  exact x_ireturn dL_cargo_164 rfl (jbool (by first | exact Or.inl rfl | exact Or.inr rfl)).1 ⟨Nat.le_refl _, Nat.le_refl _⟩ ⟨rfl, _, rfl, rfl, _, _, _, _, hP3, hE, rfl, rfl⟩
theorem cargo_10c {G : JG} {S : JS} {D : JD} {d : Nat} {X t n q : Int} {hs : Int → Int → Int} {r : Int → Int} {e : Int} {k v : Int} (hP : pSt S D X t n hs r q) (hE : pIn e r) (t0 : 0 ≤ t) (ht2 : t + 200 ≤ 60000) (hk : 0 ≤ k ∧ k < r 2) (hv : v ≠ 0 ∧ -1000 ≤ v ∧ v ≤ 1000) (hw0 : ¬ r (68 + 8 * k) - r (69 + 8 * k) - r (70 + 8 * k) < v) (hw1 : ¬ r (69 + 8 * k) + v < 0) (hp : ¬ 100 ≤ r (71 + 8 * k)) : JM G yL_cargo cL_cargo 12 (some .boolean) (d + 7) (0, 0) S D [.inr (.inr (some X)), .inl k, .inl v, .inl 1] (jOK S X (t + 200) e (r 1) (r 2)) := by
  have ht2 : t + 100 ≤ 60000 := by omega
  have ht : t ≤ 60000 := by omega
  have hB := hP.1
  have bk := hB.1
  have hI := hP.2.1.2.2.2.1
  have b1 := hI.1
  obtain ⟨bk0, q0, q1, q2, q3, q4, q5, q6, q7, q8, q9, q10, q11, bp, q13, q14, q15, q16, q17, q18⟩ := hI.bB ht hk
  have pb := hI.pB ht bp
  have hz : zLoad k v r = (sDr (rLoad k v r) k, some (rLoad k v r), 0) := by unfold zLoad; rw [if_pos hk, if_pos hv, if_neg hp, if_pos (by omega)]
  obtain ⟨hI3, k1a, k2a, mW, m69, m70, m68, mD⟩ := load_nums (v := v) hI hk ⟨by omega, by omega⟩
  have hE3 := (hE.load (v := v) hI hk).all hI3
  have hk2 : 0 ≤ k ∧ k < sAll (rLoad k v r) 2 := ⟨hk.1, by omega⟩
  have hz2 : zLoad k 0 (sAll (rLoad k v r)) = (-100000002, none, 0) := by unfold zLoad; rw [if_pos hk2, if_neg (by omega)]
  show JX _ _ _ _ _ _ _ _ _ _ _ [_, _, _, _, _, _, _, _, _, _, _, _] _ _
  refine x_aload_n dL_cargo_0 rfl ?_
  refine x_iload_n dL_cargo_1 rfl ?_
  refine x_iconst dL_cargo_2 ?_
  refine c_RL_22d dL_cargo_3 rfl (tb_5 hP ht hk) bk (Nat.le_of_ble_eq_true rfl) (Nat.le_of_ble_eq_true rfl) ⟨Nat.le_refl _, Nat.le_refl _⟩ ?_
  refine x_istore dL_cargo_6 (by decide) ?_
  show JX _ _ _ _ _ _ _ _ _ _ _ [_, _, _, _, _, _, _, _, _, _, _, _] _ _
  refine x_aload_n dL_cargo_8 rfl ?_
  refine x_iload_n dL_cargo_9 rfl ?_
  refine x_iload_n dL_cargo_10 rfl ?_
  refine x_if_eq (tgt := 18) dL_cargo_11 (by decide) ⟨by omega, by omega⟩ (fun h => absurd h (by omega)) (fun hb11 => ?_)
  refine x_iconst dL_cargo_14 ?_
  refine x_goto (tgt := 19) dL_cargo_15 (by decide) ?_
  refine c_RL_22d dL_cargo_19 rfl (tb_3 hP ht hk) bk (Nat.le_of_ble_eq_true rfl) (Nat.le_of_ble_eq_true rfl) ⟨Nat.le_refl _, Nat.le_refl _⟩ ?_
  refine x_istore dL_cargo_22 (by decide) ?_
  show JX _ _ _ _ _ _ _ _ _ _ _ [_, _, _, _, _, _, _, _, _, _, _, _] _ _
  refine x_aload_n dL_cargo_24 rfl ?_
  refine x_iload_n dL_cargo_25 rfl ?_
  refine x_iconst dL_cargo_26 ?_
  refine c_RL_22d dL_cargo_27 rfl (tb_1 hP ht hk) bk (Nat.le_of_ble_eq_true rfl) (Nat.le_of_ble_eq_true rfl) ⟨Nat.le_refl _, Nat.le_refl _⟩ ?_
  refine x_istore dL_cargo_30 (by decide) ?_
  show JX _ _ _ _ _ _ _ _ _ _ _ [_, _, _, _, _, _, _, _, _, _, _, _] _ _
  refine x_aload_n dL_cargo_32 rfl ?_
  refine x_iload_n dL_cargo_33 rfl ?_
  refine x_bipush dL_cargo_34 (by decide) ?_
  refine c_RL_22d dL_cargo_36 rfl (tb_7 hP ht hk) bk (Nat.le_of_ble_eq_true rfl) (Nat.le_of_ble_eq_true rfl) ⟨Nat.le_refl _, Nat.le_refl _⟩ ?_
  refine x_istore dL_cargo_39 (by decide) ?_
  show JX _ _ _ _ _ _ _ _ _ _ _ [_, _, _, _, _, _, _, _, _, _, _, _] _ _
  refine x_iload_n dL_cargo_41 rfl ?_
  refine x_iload dL_cargo_42 rfl ?_
  refine x_ic_gt (tgt := 69) dL_cargo_44 (by decide) ⟨by omega, by omega⟩ ⟨by omega, by omega⟩ (fun h => absurd h (by omega)) (fun hb44 => ?_)
  refine x_iload dL_cargo_47 rfl ?_
  refine x_iload_n dL_cargo_49 rfl ?_
  refine x_iadd dL_cargo_50 ?_
  refine x_if_lt (tgt := 69) dL_cargo_51 (by decide) ⟨by omega, by omega⟩ (fun h => absurd h (by omega)) (fun hb51 => ?_)
  refine x_iload_n dL_cargo_54 rfl ?_
  refine x_if_ne (tgt := 73) dL_cargo_55 (by decide) ⟨by omega, by omega⟩ (fun hb55 => ?_) (fun h => (h (by omega)).elim)
  refine x_iconst dL_cargo_73 ?_
  refine x_istore dL_cargo_74 (by decide) ?_
  show JX _ _ _ _ _ _ _ _ _ _ _ [_, _, _, _, _, _, _, _, _, _, _, _] _ _
  refine x_iload_n dL_cargo_76 rfl ?_
  refine x_if_eq (tgt := 91) dL_cargo_77 (by decide) ⟨by omega, by omega⟩ (fun h => absurd h (by omega)) (fun hb77 => ?_)
  refine x_iload dL_cargo_80 rfl ?_
  refine x_bipush dL_cargo_82 (by decide) ?_
  refine x_ic_lt (tgt := 91) dL_cargo_84 (by decide) ⟨by omega, by omega⟩ ⟨by omega, by omega⟩ (fun hb84 => ?_) (fun h => (h (by omega)).elim)
  refine x_iload dL_cargo_91 rfl ?_
  refine x_if_eq (tgt := 101) dL_cargo_93 (by decide) ⟨by omega, by omega⟩ (fun hb93 => ?_) (fun h => (h (by omega)).elim)
  refine x_iconst dL_cargo_101 ?_
  refine x_istore dL_cargo_102 (by decide) ?_
  show JX _ _ _ _ _ _ _ _ _ _ _ [_, _, _, _, _, _, _, _, _, _, _, _] _ _
  refine x_iload_n dL_cargo_104 rfl ?_
  refine x_if_eq (tgt := 117) dL_cargo_105 (by decide) ⟨by omega, by omega⟩ (fun h => absurd h (by omega)) (fun hb105 => ?_)
  refine x_aload_n dL_cargo_108 rfl ?_
  refine x_iload_n dL_cargo_109 rfl ?_
  refine x_iload_n dL_cargo_110 rfl ?_
  refine c_RL_72p dL_cargo_111 rfl (kX7_load hP.1 (Or.inl rfl) hP.2.1 ht2 ⟨by omega, by omega⟩ ⟨by omega, by omega⟩) bk (Nat.le_of_ble_eq_true rfl) (Nat.le_of_ble_eq_true rfl) ⟨Nat.le_refl _, Nat.le_refl _⟩ (fun w2 D2 h2 => ?_)
  refine x_goto (tgt := 123) dL_cargo_114 (by decide) ?_
  obtain ⟨rfl, hP2⟩ := hP.some hz h2
  have hI2 := hP2.2.1.2.2.2.1
  have cB2 := hI2.bB ht2 hk2
  have ht3 : t + 100 + 100 ≤ 60000 := by omega
  rw [mD] at cB2
  refine x_istore dL_cargo_123 (by decide) ?_
  show JX _ _ _ _ _ _ _ _ _ _ _ [_, _, _, _, _, _, _, _, _, _, _, _] _ _
  refine x_iload dL_cargo_125 rfl ?_
  refine x_if_le (tgt := 165) dL_cargo_127 (by decide) ⟨by omega, by omega⟩ (fun hb127 => ?_) (fun h => (h (by omega)).elim)
  refine x_iload_n dL_cargo_165 rfl ?_
  refine x_if_eq (tgt := 178) dL_cargo_166 (by decide) ⟨by omega, by omega⟩ (fun h => absurd h (by omega)) (fun hb166 => ?_)
  refine x_aload_n dL_cargo_169 rfl ?_
  refine x_iload_n dL_cargo_170 rfl ?_
  refine x_iconst dL_cargo_171 ?_
  refine c_RL_72p dL_cargo_172 rfl (kX7_load hP2.1 (Or.inl rfl) hP2.2.1 ht3 ⟨by omega, by omega⟩ ⟨by omega, by omega⟩) bk (Nat.le_of_ble_eq_true rfl) (Nat.le_of_ble_eq_true rfl) ⟨Nat.le_refl _, Nat.le_refl _⟩ (fun w3 D3 h3 => ?_)
  refine x_goto (tgt := 184) dL_cargo_175 (by decide) ?_
  obtain ⟨rfl, hP3⟩ := hP2.err hz2 h3
  replace hP3 := hP3.mono (show t + 100 + 100 ≤ t + 200 by omega)
  have ht4 : t + 200 ≤ 60000 := by omega
  refine x_ldc (e := -100000002) dL_cargo_184 ct_RL_37 (by decide) ?_
  refine x_ic_ne (tgt := 193) dL_cargo_186 (by decide) ⟨by omega, by omega⟩ ⟨by omega, by omega⟩ (fun h => absurd h (by omega)) (fun hb186 => ?_)
  refine x_iconst dL_cargo_189 ?_
  refine x_goto (tgt := 194) dL_cargo_190 (by decide) ?_
  refine x_istore dL_cargo_194 (by decide) ?_
  show JX _ _ _ _ _ _ _ _ _ _ _ [_, _, _, _, _, _, _, _, _, _, _, _] _ _
  refine x_iload dL_cargo_196 rfl ?_
  refine x_if_eq (tgt := 263) dL_cargo_198 (by decide) ⟨by omega, by omega⟩ (fun h => absurd h (by omega)) (fun hb198 => ?_)
  refine x_iload dL_cargo_201 rfl ?_
  refine x_aload_n dL_cargo_203 rfl ?_
  refine x_iload_n dL_cargo_204 rfl ?_
  refine x_iconst dL_cargo_205 ?_
  refine c_RL_22d dL_cargo_206 rfl (tb_2 hP3 ht4 hk2) bk (Nat.le_of_ble_eq_true rfl) (Nat.le_of_ble_eq_true rfl) ⟨Nat.le_refl _, Nat.le_refl _⟩ ?_
  rw [mD]
  refine x_ic_ne (tgt := 263) dL_cargo_209 (by decide) ⟨by omega, by omega⟩ ⟨by omega, by omega⟩ (fun h => absurd h (by omega)) (fun hb209 => ?_)
  refine x_aload_n dL_cargo_212 rfl ?_
  refine x_iload_n dL_cargo_213 rfl ?_
  refine x_iconst dL_cargo_214 ?_
  refine c_RL_22d dL_cargo_215 rfl (tb_1 hP3 ht4 hk2) bk (Nat.le_of_ble_eq_true rfl) (Nat.le_of_ble_eq_true rfl) ⟨Nat.le_refl _, Nat.le_refl _⟩ ?_
  refine x_iload dL_cargo_218 rfl ?_
  refine x_iload_n dL_cargo_220 rfl ?_
  refine x_iadd dL_cargo_221 ?_
  refine x_ic_ne (tgt := 263) dL_cargo_222 (by decide) ⟨by omega, by omega⟩ ⟨by omega, by omega⟩ (fun h => absurd h (by omega)) (fun hb222 => ?_)
  refine x_aload_n dL_cargo_225 rfl ?_
  refine x_iload_n dL_cargo_226 rfl ?_
  refine x_iconst dL_cargo_227 ?_
  refine c_RL_22d dL_cargo_228 rfl (tb_5 hP3 ht4 hk2) bk (Nat.le_of_ble_eq_true rfl) (Nat.le_of_ble_eq_true rfl) ⟨Nat.le_refl _, Nat.le_refl _⟩ ?_
  refine x_iload dL_cargo_231 rfl ?_
  refine x_iload_n dL_cargo_233 rfl ?_
  refine x_isub dL_cargo_234 ?_
  refine x_ic_ne (tgt := 263) dL_cargo_235 (by decide) ⟨by omega, by omega⟩ ⟨by omega, by omega⟩ (fun h => absurd h (by omega)) (fun hb235 => ?_)
  refine x_aload_n dL_cargo_238 rfl ?_
  refine x_iload_n dL_cargo_239 rfl ?_
  refine x_iload_n dL_cargo_240 rfl ?_
  refine x_if_eq (tgt := 248) dL_cargo_241 (by decide) ⟨by omega, by omega⟩ (fun h => absurd h (by omega)) (fun hb241 => ?_)
  refine x_iconst dL_cargo_244 ?_
  refine x_goto (tgt := 249) dL_cargo_245 (by decide) ?_
  refine c_RL_22d dL_cargo_249 rfl (tb_3 hP3 ht4 hk2) bk (Nat.le_of_ble_eq_true rfl) (Nat.le_of_ble_eq_true rfl) ⟨Nat.le_refl _, Nat.le_refl _⟩ ?_
  refine x_iload dL_cargo_252 rfl ?_
  refine x_iload_n dL_cargo_254 rfl ?_
  refine x_iadd dL_cargo_255 ?_
  refine x_ic_ne (tgt := 263) dL_cargo_256 (by decide) ⟨by omega, by omega⟩ ⟨by omega, by omega⟩ (fun h => absurd h (by omega)) (fun hb256 => ?_)
  refine x_iconst dL_cargo_259 ?_
  refine x_goto (tgt := 264) dL_cargo_260 (by decide) ?_
  exact x_ireturn dL_cargo_264 rfl (jbool (by first | exact Or.inl rfl | exact Or.inr rfl)).1 ⟨Nat.le_refl _, Nat.le_refl _⟩ ⟨rfl, _, rfl, rfl, _, _, _, _, hP3, hE3, k1a, k2a⟩
theorem cargo_08a {G : JG} {S : JS} {D : JD} {d : Nat} {X t n q : Int} {hs : Int → Int → Int} {r : Int → Int} {e : Int} {k v : Int} (hP : pSt S D X t n hs r q) (hE : pIn e r) (t0 : 0 ≤ t) (ht2 : t + 200 ≤ 60000) (hk : 0 ≤ k ∧ k < r 2) (hv : v ≠ 0 ∧ -1000 ≤ v ∧ v ≤ 1000) (hw : r (68 + 8 * k) - r (69 + 8 * k) - r (70 + 8 * k) < v) : JM G yL_cargo cL_cargo 12 (some .boolean) (d + 7) (0, 0) S D [.inr (.inr (some X)), .inl k, .inl v, .inl 0] (jOK S X (t + 200) e (r 1) (r 2)) := by
  have ht2 : t + 100 ≤ 60000 := by omega
  have ht : t ≤ 60000 := by omega
  have hB := hP.1
  have bk := hB.1
  have hI := hP.2.1.2.2.2.1
  have b1 := hI.1
  obtain ⟨bk0, q0, q1, q2, q3, q4, q5, q6, q7, q8, q9, q10, q11, bp, q13, q14, q15, q16, q17, q18⟩ := hI.bB ht hk
  have pb := hI.pB ht bp
  have hz : zPump k v r = (-100000003, none, 8) := by unfold zPump; rw [if_pos hk, if_pos hv, if_neg (by omega)]
  show JX _ _ _ _ _ _ _ _ _ _ _ [_, _, _, _, _, _, _, _, _, _, _, _] _ _
  refine x_aload_n dL_cargo_0 rfl ?_
  refine x_iload_n dL_cargo_1 rfl ?_
  refine x_iconst dL_cargo_2 ?_
  refine c_RL_22d dL_cargo_3 rfl (tb_5 hP ht hk) bk (Nat.le_of_ble_eq_true rfl) (Nat.le_of_ble_eq_true rfl) ⟨Nat.le_refl _, Nat.le_refl _⟩ ?_
  refine x_istore dL_cargo_6 (by decide) ?_
  show JX _ _ _ _ _ _ _ _ _ _ _ [_, _, _, _, _, _, _, _, _, _, _, _] _ _
  refine x_aload_n dL_cargo_8 rfl ?_
  refine x_iload_n dL_cargo_9 rfl ?_
  refine x_iload_n dL_cargo_10 rfl ?_
  refine x_if_eq (tgt := 18) dL_cargo_11 (by decide) ⟨by omega, by omega⟩ (fun hb11 => ?_) (fun h => (h (by omega)).elim)
  refine x_iconst dL_cargo_18 ?_
  refine c_RL_22d dL_cargo_19 rfl (tb_4 hP ht hk) bk (Nat.le_of_ble_eq_true rfl) (Nat.le_of_ble_eq_true rfl) ⟨Nat.le_refl _, Nat.le_refl _⟩ ?_
  refine x_istore dL_cargo_22 (by decide) ?_
  show JX _ _ _ _ _ _ _ _ _ _ _ [_, _, _, _, _, _, _, _, _, _, _, _] _ _
  refine x_aload_n dL_cargo_24 rfl ?_
  refine x_iload_n dL_cargo_25 rfl ?_
  refine x_iconst dL_cargo_26 ?_
  refine c_RL_22d dL_cargo_27 rfl (tb_1 hP ht hk) bk (Nat.le_of_ble_eq_true rfl) (Nat.le_of_ble_eq_true rfl) ⟨Nat.le_refl _, Nat.le_refl _⟩ ?_
  refine x_istore dL_cargo_30 (by decide) ?_
  show JX _ _ _ _ _ _ _ _ _ _ _ [_, _, _, _, _, _, _, _, _, _, _, _] _ _
  refine x_aload_n dL_cargo_32 rfl ?_
  refine x_iload_n dL_cargo_33 rfl ?_
  refine x_bipush dL_cargo_34 (by decide) ?_
  refine c_RL_22d dL_cargo_36 rfl (tb_7 hP ht hk) bk (Nat.le_of_ble_eq_true rfl) (Nat.le_of_ble_eq_true rfl) ⟨Nat.le_refl _, Nat.le_refl _⟩ ?_
  refine x_istore dL_cargo_39 (by decide) ?_
  show JX _ _ _ _ _ _ _ _ _ _ _ [_, _, _, _, _, _, _, _, _, _, _, _] _ _
  refine x_iload_n dL_cargo_41 rfl ?_
  refine x_iload dL_cargo_42 rfl ?_
  refine x_ic_gt (tgt := 69) dL_cargo_44 (by decide) ⟨by omega, by omega⟩ ⟨by omega, by omega⟩ (fun hb44 => ?_) (fun h => (h (by omega)).elim)
  refine x_iconst dL_cargo_69 ?_
  refine x_goto (tgt := 74) dL_cargo_70 (by decide) ?_
  refine x_istore dL_cargo_74 (by decide) ?_
  show JX _ _ _ _ _ _ _ _ _ _ _ [_, _, _, _, _, _, _, _, _, _, _, _] _ _
  refine x_iload_n dL_cargo_76 rfl ?_
  refine x_if_eq (tgt := 91) dL_cargo_77 (by decide) ⟨by omega, by omega⟩ (fun hb77 => ?_) (fun h => (h (by omega)).elim)
  refine x_iload dL_cargo_91 rfl ?_
  refine x_if_eq (tgt := 101) dL_cargo_93 (by decide) ⟨by omega, by omega⟩ (fun h => absurd h (by omega)) (fun hb93 => ?_)
  refine x_bipush dL_cargo_96 (by decide) ?_
  refine x_goto (tgt := 102) dL_cargo_98 (by decide) ?_
  refine x_istore dL_cargo_102 (by decide) ?_
  show JX _ _ _ _ _ _ _ _ _ _ _ [_, _, _, _, _, _, _, _, _, _, _, _] _ _
  refine x_iload_n dL_cargo_104 rfl ?_
  refine x_if_eq (tgt := 117) dL_cargo_105 (by decide) ⟨by omega, by omega⟩ (fun hb105 => ?_) (fun h => (h (by omega)).elim)
  refine x_aload_n dL_cargo_117 rfl ?_
  refine x_iload_n dL_cargo_118 rfl ?_
  refine x_iload_n dL_cargo_119 rfl ?_
  refine c_RL_75p dL_cargo_120 rfl (kX7_pump hP.1 (Or.inl rfl) hP.2.1 ht2 ⟨by omega, by omega⟩ ⟨by omega, by omega⟩) bk (Nat.le_of_ble_eq_true rfl) (Nat.le_of_ble_eq_true rfl) ⟨Nat.le_refl _, Nat.le_refl _⟩ (fun w2 D2 h2 => ?_)
  obtain ⟨rfl, hP2⟩ := hP.ref hz (by decide) h2
  have hP3 := hP2.mono (show t + 100 ≤ t + 200 by omega)
  refine x_istore dL_cargo_123 (by decide) ?_
  show JX _ _ _ _ _ _ _ _ _ _ _ [_, _, _, _, _, _, _, _, _, _, _, _] _ _
  refine x_iload dL_cargo_125 rfl ?_
  refine x_if_le (tgt := 165) dL_cargo_127 (by decide) ⟨by omega, by omega⟩ (fun h => absurd h (by omega)) (fun hb127 => ?_)
  refine x_iload dL_cargo_130 rfl ?_
  refine x_ldc (e := -100000003) dL_cargo_132 ct_RL_59 (by decide) ?_
  refine x_ic_ne (tgt := 163) dL_cargo_134 (by decide) ⟨by omega, by omega⟩ ⟨by omega, by omega⟩ (fun h => absurd h (by omega)) (fun hb134 => ?_)
  refine x_aload_n dL_cargo_137 rfl ?_
  refine x_bipush dL_cargo_138 (by decide) ?_
  refine c_RL_18d dL_cargo_140 rfl (tn_7 hP2 ht2) bk (Nat.le_of_ble_eq_true rfl) (Nat.le_of_ble_eq_true rfl) ⟨Nat.le_refl _, Nat.le_refl _⟩ ?_
  refine x_iload dL_cargo_143 rfl ?_
  refine x_ic_ne (tgt := 163) dL_cargo_145 (by decide) ⟨by omega, by omega⟩ ⟨by omega, by omega⟩ (fun h => absurd h (by omega)) (fun hb145 => ?_)
  refine x_aload_n dL_cargo_148 rfl ?_
  refine x_iload_n dL_cargo_149 rfl ?_
  refine x_iconst dL_cargo_150 ?_
  refine c_RL_22d dL_cargo_151 rfl (tb_1 hP2 ht2 hk) bk (Nat.le_of_ble_eq_true rfl) (Nat.le_of_ble_eq_true rfl) ⟨Nat.le_refl _, Nat.le_refl _⟩ ?_
  refine x_iload dL_cargo_154 rfl ?_
  refine x_ic_ne (tgt := 163) dL_cargo_156 (by decide) ⟨by omega, by omega⟩ ⟨by omega, by omega⟩ (fun h => absurd h (by omega)) (fun hb156 => ?_)
  refine x_iconst dL_cargo_159 ?_
  refine x_goto (tgt := 164) dL_cargo_160 (by decide) ?_
  exact x_ireturn dL_cargo_164 rfl (jbool (by first | exact Or.inl rfl | exact Or.inr rfl)).1 ⟨Nat.le_refl _, Nat.le_refl _⟩ ⟨rfl, _, rfl, rfl, _, _, _, _, hP3, hE, rfl, rfl⟩
theorem cargo_08b {G : JG} {S : JS} {D : JD} {d : Nat} {X t n q : Int} {hs : Int → Int → Int} {r : Int → Int} {e : Int} {k v : Int} (hP : pSt S D X t n hs r q) (hE : pIn e r) (t0 : 0 ≤ t) (ht2 : t + 200 ≤ 60000) (hk : 0 ≤ k ∧ k < r 2) (hv : v ≠ 0 ∧ -1000 ≤ v ∧ v ≤ 1000) (hw0 : ¬ r (68 + 8 * k) - r (69 + 8 * k) - r (70 + 8 * k) < v) (hw : r (70 + 8 * k) + v < 0) : JM G yL_cargo cL_cargo 12 (some .boolean) (d + 7) (0, 0) S D [.inr (.inr (some X)), .inl k, .inl v, .inl 0] (jOK S X (t + 200) e (r 1) (r 2)) := by
  have ht2 : t + 100 ≤ 60000 := by omega
  have ht : t ≤ 60000 := by omega
  have hB := hP.1
  have bk := hB.1
  have hI := hP.2.1.2.2.2.1
  have b1 := hI.1
  obtain ⟨bk0, q0, q1, q2, q3, q4, q5, q6, q7, q8, q9, q10, q11, bp, q13, q14, q15, q16, q17, q18⟩ := hI.bB ht hk
  have pb := hI.pB ht bp
  have hz : zPump k v r = (-100000003, none, 8) := by unfold zPump; rw [if_pos hk, if_pos hv, if_neg (by omega)]
  show JX _ _ _ _ _ _ _ _ _ _ _ [_, _, _, _, _, _, _, _, _, _, _, _] _ _
  refine x_aload_n dL_cargo_0 rfl ?_
  refine x_iload_n dL_cargo_1 rfl ?_
  refine x_iconst dL_cargo_2 ?_
  refine c_RL_22d dL_cargo_3 rfl (tb_5 hP ht hk) bk (Nat.le_of_ble_eq_true rfl) (Nat.le_of_ble_eq_true rfl) ⟨Nat.le_refl _, Nat.le_refl _⟩ ?_
  refine x_istore dL_cargo_6 (by decide) ?_
  show JX _ _ _ _ _ _ _ _ _ _ _ [_, _, _, _, _, _, _, _, _, _, _, _] _ _
  refine x_aload_n dL_cargo_8 rfl ?_
  refine x_iload_n dL_cargo_9 rfl ?_
  refine x_iload_n dL_cargo_10 rfl ?_
  refine x_if_eq (tgt := 18) dL_cargo_11 (by decide) ⟨by omega, by omega⟩ (fun hb11 => ?_) (fun h => (h (by omega)).elim)
  refine x_iconst dL_cargo_18 ?_
  refine c_RL_22d dL_cargo_19 rfl (tb_4 hP ht hk) bk (Nat.le_of_ble_eq_true rfl) (Nat.le_of_ble_eq_true rfl) ⟨Nat.le_refl _, Nat.le_refl _⟩ ?_
  refine x_istore dL_cargo_22 (by decide) ?_
  show JX _ _ _ _ _ _ _ _ _ _ _ [_, _, _, _, _, _, _, _, _, _, _, _] _ _
  refine x_aload_n dL_cargo_24 rfl ?_
  refine x_iload_n dL_cargo_25 rfl ?_
  refine x_iconst dL_cargo_26 ?_
  refine c_RL_22d dL_cargo_27 rfl (tb_1 hP ht hk) bk (Nat.le_of_ble_eq_true rfl) (Nat.le_of_ble_eq_true rfl) ⟨Nat.le_refl _, Nat.le_refl _⟩ ?_
  refine x_istore dL_cargo_30 (by decide) ?_
  show JX _ _ _ _ _ _ _ _ _ _ _ [_, _, _, _, _, _, _, _, _, _, _, _] _ _
  refine x_aload_n dL_cargo_32 rfl ?_
  refine x_iload_n dL_cargo_33 rfl ?_
  refine x_bipush dL_cargo_34 (by decide) ?_
  refine c_RL_22d dL_cargo_36 rfl (tb_7 hP ht hk) bk (Nat.le_of_ble_eq_true rfl) (Nat.le_of_ble_eq_true rfl) ⟨Nat.le_refl _, Nat.le_refl _⟩ ?_
  refine x_istore dL_cargo_39 (by decide) ?_
  show JX _ _ _ _ _ _ _ _ _ _ _ [_, _, _, _, _, _, _, _, _, _, _, _] _ _
  refine x_iload_n dL_cargo_41 rfl ?_
  refine x_iload dL_cargo_42 rfl ?_
  refine x_ic_gt (tgt := 69) dL_cargo_44 (by decide) ⟨by omega, by omega⟩ ⟨by omega, by omega⟩ (fun h => absurd h (by omega)) (fun hb44 => ?_)
  refine x_iload dL_cargo_47 rfl ?_
  refine x_iload_n dL_cargo_49 rfl ?_
  refine x_iadd dL_cargo_50 ?_
  refine x_if_lt (tgt := 69) dL_cargo_51 (by decide) ⟨by omega, by omega⟩ (fun hb51 => ?_) (fun h => (h (by omega)).elim)
  refine x_iconst dL_cargo_69 ?_
  refine x_goto (tgt := 74) dL_cargo_70 (by decide) ?_
  refine x_istore dL_cargo_74 (by decide) ?_
  show JX _ _ _ _ _ _ _ _ _ _ _ [_, _, _, _, _, _, _, _, _, _, _, _] _ _
  refine x_iload_n dL_cargo_76 rfl ?_
  refine x_if_eq (tgt := 91) dL_cargo_77 (by decide) ⟨by omega, by omega⟩ (fun hb77 => ?_) (fun h => (h (by omega)).elim)
  refine x_iload dL_cargo_91 rfl ?_
  refine x_if_eq (tgt := 101) dL_cargo_93 (by decide) ⟨by omega, by omega⟩ (fun h => absurd h (by omega)) (fun hb93 => ?_)
  refine x_bipush dL_cargo_96 (by decide) ?_
  refine x_goto (tgt := 102) dL_cargo_98 (by decide) ?_
  refine x_istore dL_cargo_102 (by decide) ?_
  show JX _ _ _ _ _ _ _ _ _ _ _ [_, _, _, _, _, _, _, _, _, _, _, _] _ _
  refine x_iload_n dL_cargo_104 rfl ?_
  refine x_if_eq (tgt := 117) dL_cargo_105 (by decide) ⟨by omega, by omega⟩ (fun hb105 => ?_) (fun h => (h (by omega)).elim)
  refine x_aload_n dL_cargo_117 rfl ?_
  refine x_iload_n dL_cargo_118 rfl ?_
  refine x_iload_n dL_cargo_119 rfl ?_
  refine c_RL_75p dL_cargo_120 rfl (kX7_pump hP.1 (Or.inl rfl) hP.2.1 ht2 ⟨by omega, by omega⟩ ⟨by omega, by omega⟩) bk (Nat.le_of_ble_eq_true rfl) (Nat.le_of_ble_eq_true rfl) ⟨Nat.le_refl _, Nat.le_refl _⟩ (fun w2 D2 h2 => ?_)
  obtain ⟨rfl, hP2⟩ := hP.ref hz (by decide) h2
  have hP3 := hP2.mono (show t + 100 ≤ t + 200 by omega)
  refine x_istore dL_cargo_123 (by decide) ?_
  show JX _ _ _ _ _ _ _ _ _ _ _ [_, _, _, _, _, _, _, _, _, _, _, _] _ _
  refine x_iload dL_cargo_125 rfl ?_
  refine x_if_le (tgt := 165) dL_cargo_127 (by decide) ⟨by omega, by omega⟩ (fun h => absurd h (by omega)) (fun hb127 => ?_)
  refine x_iload dL_cargo_130 rfl ?_
  refine x_ldc (e := -100000003) dL_cargo_132 ct_RL_59 (by decide) ?_
  refine x_ic_ne (tgt := 163) dL_cargo_134 (by decide) ⟨by omega, by omega⟩ ⟨by omega, by omega⟩ (fun h => absurd h (by omega)) (fun hb134 => ?_)
  refine x_aload_n dL_cargo_137 rfl ?_
  refine x_bipush dL_cargo_138 (by decide) ?_
  refine c_RL_18d dL_cargo_140 rfl (tn_7 hP2 ht2) bk (Nat.le_of_ble_eq_true rfl) (Nat.le_of_ble_eq_true rfl) ⟨Nat.le_refl _, Nat.le_refl _⟩ ?_
  refine x_iload dL_cargo_143 rfl ?_
  refine x_ic_ne (tgt := 163) dL_cargo_145 (by decide) ⟨by omega, by omega⟩ ⟨by omega, by omega⟩ (fun h => absurd h (by omega)) (fun hb145 => ?_)
  refine x_aload_n dL_cargo_148 rfl ?_
  refine x_iload_n dL_cargo_149 rfl ?_
  refine x_iconst dL_cargo_150 ?_
  refine c_RL_22d dL_cargo_151 rfl (tb_1 hP2 ht2 hk) bk (Nat.le_of_ble_eq_true rfl) (Nat.le_of_ble_eq_true rfl) ⟨Nat.le_refl _, Nat.le_refl _⟩ ?_
  refine x_iload dL_cargo_154 rfl ?_
  refine x_ic_ne (tgt := 163) dL_cargo_156 (by decide) ⟨by omega, by omega⟩ ⟨by omega, by omega⟩ (fun h => absurd h (by omega)) (fun hb156 => ?_)
  refine x_iconst dL_cargo_159 ?_
  refine x_goto (tgt := 164) dL_cargo_160 (by decide) ?_
  exact x_ireturn dL_cargo_164 rfl (jbool (by first | exact Or.inl rfl | exact Or.inr rfl)).1 ⟨Nat.le_refl _, Nat.le_refl _⟩ ⟨rfl, _, rfl, rfl, _, _, _, _, hP3, hE, rfl, rfl⟩
theorem cargo_08d {G : JG} {S : JS} {D : JD} {d : Nat} {X t n q : Int} {hs : Int → Int → Int} {r : Int → Int} {e : Int} {k v : Int} (hP : pSt S D X t n hs r q) (hE : pIn e r) (t0 : 0 ≤ t) (ht2 : t + 200 ≤ 60000) (hk : 0 ≤ k ∧ k < r 2) (hv : v ≠ 0 ∧ -1000 ≤ v ∧ v ≤ 1000) (hw0 : ¬ r (68 + 8 * k) - r (69 + 8 * k) - r (70 + 8 * k) < v) (hw1 : ¬ r (70 + 8 * k) + v < 0) (hw : r (wA (r (71 + 8 * k)) + 2) < v) : JM G yL_cargo cL_cargo 12 (some .boolean) (d + 7) (0, 0) S D [.inr (.inr (some X)), .inl k, .inl v, .inl 0] (jOK S X (t + 200) e (r 1) (r 2)) := by
  have ht2 : t + 100 ≤ 60000 := by omega
  have ht : t ≤ 60000 := by omega
  have hB := hP.1
  have bk := hB.1
  have hI := hP.2.1.2.2.2.1
  have b1 := hI.1
  obtain ⟨bk0, q0, q1, q2, q3, q4, q5, q6, q7, q8, q9, q10, q11, bp, q13, q14, q15, q16, q17, q18⟩ := hI.bB ht hk
  have pb := hI.pB ht bp
  have hz : zPump k v r = (-100000003, none, 8) := by unfold zPump; rw [if_pos hk, if_pos hv, if_neg (by omega)]
  show JX _ _ _ _ _ _ _ _ _ _ _ [_, _, _, _, _, _, _, _, _, _, _, _] _ _
  refine x_aload_n dL_cargo_0 rfl ?_
  refine x_iload_n dL_cargo_1 rfl ?_
  refine x_iconst dL_cargo_2 ?_
  refine c_RL_22d dL_cargo_3 rfl (tb_5 hP ht hk) bk (Nat.le_of_ble_eq_true rfl) (Nat.le_of_ble_eq_true rfl) ⟨Nat.le_refl _, Nat.le_refl _⟩ ?_
  refine x_istore dL_cargo_6 (by decide) ?_
  show JX _ _ _ _ _ _ _ _ _ _ _ [_, _, _, _, _, _, _, _, _, _, _, _] _ _
  refine x_aload_n dL_cargo_8 rfl ?_
  refine x_iload_n dL_cargo_9 rfl ?_
  refine x_iload_n dL_cargo_10 rfl ?_
  refine x_if_eq (tgt := 18) dL_cargo_11 (by decide) ⟨by omega, by omega⟩ (fun hb11 => ?_) (fun h => (h (by omega)).elim)
  refine x_iconst dL_cargo_18 ?_
  refine c_RL_22d dL_cargo_19 rfl (tb_4 hP ht hk) bk (Nat.le_of_ble_eq_true rfl) (Nat.le_of_ble_eq_true rfl) ⟨Nat.le_refl _, Nat.le_refl _⟩ ?_
  refine x_istore dL_cargo_22 (by decide) ?_
  show JX _ _ _ _ _ _ _ _ _ _ _ [_, _, _, _, _, _, _, _, _, _, _, _] _ _
  refine x_aload_n dL_cargo_24 rfl ?_
  refine x_iload_n dL_cargo_25 rfl ?_
  refine x_iconst dL_cargo_26 ?_
  refine c_RL_22d dL_cargo_27 rfl (tb_1 hP ht hk) bk (Nat.le_of_ble_eq_true rfl) (Nat.le_of_ble_eq_true rfl) ⟨Nat.le_refl _, Nat.le_refl _⟩ ?_
  refine x_istore dL_cargo_30 (by decide) ?_
  show JX _ _ _ _ _ _ _ _ _ _ _ [_, _, _, _, _, _, _, _, _, _, _, _] _ _
  refine x_aload_n dL_cargo_32 rfl ?_
  refine x_iload_n dL_cargo_33 rfl ?_
  refine x_bipush dL_cargo_34 (by decide) ?_
  refine c_RL_22d dL_cargo_36 rfl (tb_7 hP ht hk) bk (Nat.le_of_ble_eq_true rfl) (Nat.le_of_ble_eq_true rfl) ⟨Nat.le_refl _, Nat.le_refl _⟩ ?_
  refine x_istore dL_cargo_39 (by decide) ?_
  show JX _ _ _ _ _ _ _ _ _ _ _ [_, _, _, _, _, _, _, _, _, _, _, _] _ _
  refine x_iload_n dL_cargo_41 rfl ?_
  refine x_iload dL_cargo_42 rfl ?_
  refine x_ic_gt (tgt := 69) dL_cargo_44 (by decide) ⟨by omega, by omega⟩ ⟨by omega, by omega⟩ (fun h => absurd h (by omega)) (fun hb44 => ?_)
  refine x_iload dL_cargo_47 rfl ?_
  refine x_iload_n dL_cargo_49 rfl ?_
  refine x_iadd dL_cargo_50 ?_
  refine x_if_lt (tgt := 69) dL_cargo_51 (by decide) ⟨by omega, by omega⟩ (fun h => absurd h (by omega)) (fun hb51 => ?_)
  refine x_iload_n dL_cargo_54 rfl ?_
  refine x_if_ne (tgt := 73) dL_cargo_55 (by decide) ⟨by omega, by omega⟩ (fun h => absurd h (by omega)) (fun hb55 => ?_)
  refine x_iload_n dL_cargo_58 rfl ?_
  refine x_aload_n dL_cargo_59 rfl ?_
  refine x_iload dL_cargo_60 rfl ?_
  refine x_iconst dL_cargo_62 ?_
  refine c_RL_25d dL_cargo_63 rfl (to_1 hP ht bp) (Nat.le_of_ble_eq_true rfl) (Nat.le_of_ble_eq_true rfl) ⟨Nat.le_refl _, Nat.le_refl _⟩ ?_
  refine x_ic_le (tgt := 73) dL_cargo_66 (by decide) ⟨by omega, by omega⟩ ⟨by omega, by omega⟩ (fun h => absurd h (by omega)) (fun hb66 => ?_)
  refine x_iconst dL_cargo_69 ?_
  refine x_goto (tgt := 74) dL_cargo_70 (by decide) ?_
  refine x_istore dL_cargo_74 (by decide) ?_
  show JX _ _ _ _ _ _ _ _ _ _ _ [_, _, _, _, _, _, _, _, _, _, _, _] _ _
  refine x_iload_n dL_cargo_76 rfl ?_
  refine x_if_eq (tgt := 91) dL_cargo_77 (by decide) ⟨by omega, by omega⟩ (fun hb77 => ?_) (fun h => (h (by omega)).elim)
  refine x_iload dL_cargo_91 rfl ?_
  refine x_if_eq (tgt := 101) dL_cargo_93 (by decide) ⟨by omega, by omega⟩ (fun h => absurd h (by omega)) (fun hb93 => ?_)
  refine x_bipush dL_cargo_96 (by decide) ?_
  refine x_goto (tgt := 102) dL_cargo_98 (by decide) ?_
  refine x_istore dL_cargo_102 (by decide) ?_
  show JX _ _ _ _ _ _ _ _ _ _ _ [_, _, _, _, _, _, _, _, _, _, _, _] _ _
  refine x_iload_n dL_cargo_104 rfl ?_
  refine x_if_eq (tgt := 117) dL_cargo_105 (by decide) ⟨by omega, by omega⟩ (fun hb105 => ?_) (fun h => (h (by omega)).elim)
  refine x_aload_n dL_cargo_117 rfl ?_
  refine x_iload_n dL_cargo_118 rfl ?_
  refine x_iload_n dL_cargo_119 rfl ?_
  refine c_RL_75p dL_cargo_120 rfl (kX7_pump hP.1 (Or.inl rfl) hP.2.1 ht2 ⟨by omega, by omega⟩ ⟨by omega, by omega⟩) bk (Nat.le_of_ble_eq_true rfl) (Nat.le_of_ble_eq_true rfl) ⟨Nat.le_refl _, Nat.le_refl _⟩ (fun w2 D2 h2 => ?_)
  obtain ⟨rfl, hP2⟩ := hP.ref hz (by decide) h2
  have hP3 := hP2.mono (show t + 100 ≤ t + 200 by omega)
  refine x_istore dL_cargo_123 (by decide) ?_
  show JX _ _ _ _ _ _ _ _ _ _ _ [_, _, _, _, _, _, _, _, _, _, _, _] _ _
  refine x_iload dL_cargo_125 rfl ?_
  refine x_if_le (tgt := 165) dL_cargo_127 (by decide) ⟨by omega, by omega⟩ (fun h => absurd h (by omega)) (fun hb127 => ?_)
  refine x_iload dL_cargo_130 rfl ?_
  refine x_ldc (e := -100000003) dL_cargo_132 ct_RL_59 (by decide) ?_
  refine x_ic_ne (tgt := 163) dL_cargo_134 (by decide) ⟨by omega, by omega⟩ ⟨by omega, by omega⟩ (fun h => absurd h (by omega)) (fun hb134 => ?_)
  refine x_aload_n dL_cargo_137 rfl ?_
  refine x_bipush dL_cargo_138 (by decide) ?_
  refine c_RL_18d dL_cargo_140 rfl (tn_7 hP2 ht2) bk (Nat.le_of_ble_eq_true rfl) (Nat.le_of_ble_eq_true rfl) ⟨Nat.le_refl _, Nat.le_refl _⟩ ?_
  refine x_iload dL_cargo_143 rfl ?_
  refine x_ic_ne (tgt := 163) dL_cargo_145 (by decide) ⟨by omega, by omega⟩ ⟨by omega, by omega⟩ (fun h => absurd h (by omega)) (fun hb145 => ?_)
  refine x_aload_n dL_cargo_148 rfl ?_
  refine x_iload_n dL_cargo_149 rfl ?_
  refine x_iconst dL_cargo_150 ?_
  refine c_RL_22d dL_cargo_151 rfl (tb_1 hP2 ht2 hk) bk (Nat.le_of_ble_eq_true rfl) (Nat.le_of_ble_eq_true rfl) ⟨Nat.le_refl _, Nat.le_refl _⟩ ?_
  refine x_iload dL_cargo_154 rfl ?_
  refine x_ic_ne (tgt := 163) dL_cargo_156 (by decide) ⟨by omega, by omega⟩ ⟨by omega, by omega⟩ (fun h => absurd h (by omega)) (fun hb156 => ?_)
  refine x_iconst dL_cargo_159 ?_
  refine x_goto (tgt := 164) dL_cargo_160 (by decide) ?_
  exact x_ireturn dL_cargo_164 rfl (jbool (by first | exact Or.inl rfl | exact Or.inr rfl)).1 ⟨Nat.le_refl _, Nat.le_refl _⟩ ⟨rfl, _, rfl, rfl, _, _, _, _, hP3, hE, rfl, rfl⟩
theorem cargo_00c {G : JG} {S : JS} {D : JD} {d : Nat} {X t n q : Int} {hs : Int → Int → Int} {r : Int → Int} {e : Int} {k v : Int} (hP : pSt S D X t n hs r q) (hE : pIn e r) (t0 : 0 ≤ t) (ht2 : t + 200 ≤ 60000) (hk : 0 ≤ k ∧ k < r 2) (hv : v ≠ 0 ∧ -1000 ≤ v ∧ v ≤ 1000) (hw0 : ¬ r (68 + 8 * k) - r (69 + 8 * k) - r (70 + 8 * k) < v) (hw1 : ¬ r (70 + 8 * k) + v < 0) (hw : ¬ r (wA (r (71 + 8 * k)) + 2) < v) : JM G yL_cargo cL_cargo 12 (some .boolean) (d + 7) (0, 0) S D [.inr (.inr (some X)), .inl k, .inl v, .inl 0] (jOK S X (t + 200) e (r 1) (r 2)) := by
  have ht2 : t + 100 ≤ 60000 := by omega
  have ht : t ≤ 60000 := by omega
  have hB := hP.1
  have bk := hB.1
  have hI := hP.2.1.2.2.2.1
  have b1 := hI.1
  obtain ⟨bk0, q0, q1, q2, q3, q4, q5, q6, q7, q8, q9, q10, q11, bp, q13, q14, q15, q16, q17, q18⟩ := hI.bB ht hk
  have pb := hI.pB ht bp
  have hz : zPump k v r = (sDr (rPump k v r) k, some (rPump k v r), 0) := by unfold zPump; rw [if_pos hk, if_pos hv, if_pos (by omega)]
  obtain ⟨hI3, k1a, k2a, mW, m70, m69, m68, mD⟩ := pump_nums hI hk hv.2 ⟨by omega, by omega, by omega⟩
  have hE3 := (hE.pump hI hk hv.2.1 (by omega)).all hI3
  have hk2 : 0 ≤ k ∧ k < sAll (rPump k v r) 2 := ⟨hk.1, by omega⟩
  have hz2 : zPump k 0 (sAll (rPump k v r)) = (-100000002, none, 0) := by unfold zPump; rw [if_pos hk2, if_neg (by omega)]
  show JX _ _ _ _ _ _ _ _ _ _ _ [_, _, _, _, _, _, _, _, _, _, _, _] _ _
  refine x_aload_n dL_cargo_0 rfl ?_
  refine x_iload_n dL_cargo_1 rfl ?_
  refine x_iconst dL_cargo_2 ?_
  refine c_RL_22d dL_cargo_3 rfl (tb_5 hP ht hk) bk (Nat.le_of_ble_eq_true rfl) (Nat.le_of_ble_eq_true rfl) ⟨Nat.le_refl _, Nat.le_refl _⟩ ?_
  refine x_istore dL_cargo_6 (by decide) ?_
  show JX _ _ _ _ _ _ _ _ _ _ _ [_, _, _, _, _, _, _, _, _, _, _, _] _ _
  refine x_aload_n dL_cargo_8 rfl ?_
  refine x_iload_n dL_cargo_9 rfl ?_
  refine x_iload_n dL_cargo_10 rfl ?_
  refine x_if_eq (tgt := 18) dL_cargo_11 (by decide) ⟨by omega, by omega⟩ (fun hb11 => ?_) (fun h => (h (by omega)).elim)
  refine x_iconst dL_cargo_18 ?_
  refine c_RL_22d dL_cargo_19 rfl (tb_4 hP ht hk) bk (Nat.le_of_ble_eq_true rfl) (Nat.le_of_ble_eq_true rfl) ⟨Nat.le_refl _, Nat.le_refl _⟩ ?_
  refine x_istore dL_cargo_22 (by decide) ?_
  show JX _ _ _ _ _ _ _ _ _ _ _ [_, _, _, _, _, _, _, _, _, _, _, _] _ _
  refine x_aload_n dL_cargo_24 rfl ?_
  refine x_iload_n dL_cargo_25 rfl ?_
  refine x_iconst dL_cargo_26 ?_
  refine c_RL_22d dL_cargo_27 rfl (tb_1 hP ht hk) bk (Nat.le_of_ble_eq_true rfl) (Nat.le_of_ble_eq_true rfl) ⟨Nat.le_refl _, Nat.le_refl _⟩ ?_
  refine x_istore dL_cargo_30 (by decide) ?_
  show JX _ _ _ _ _ _ _ _ _ _ _ [_, _, _, _, _, _, _, _, _, _, _, _] _ _
  refine x_aload_n dL_cargo_32 rfl ?_
  refine x_iload_n dL_cargo_33 rfl ?_
  refine x_bipush dL_cargo_34 (by decide) ?_
  refine c_RL_22d dL_cargo_36 rfl (tb_7 hP ht hk) bk (Nat.le_of_ble_eq_true rfl) (Nat.le_of_ble_eq_true rfl) ⟨Nat.le_refl _, Nat.le_refl _⟩ ?_
  refine x_istore dL_cargo_39 (by decide) ?_
  show JX _ _ _ _ _ _ _ _ _ _ _ [_, _, _, _, _, _, _, _, _, _, _, _] _ _
  refine x_iload_n dL_cargo_41 rfl ?_
  refine x_iload dL_cargo_42 rfl ?_
  refine x_ic_gt (tgt := 69) dL_cargo_44 (by decide) ⟨by omega, by omega⟩ ⟨by omega, by omega⟩ (fun h => absurd h (by omega)) (fun hb44 => ?_)
  refine x_iload dL_cargo_47 rfl ?_
  refine x_iload_n dL_cargo_49 rfl ?_
  refine x_iadd dL_cargo_50 ?_
  refine x_if_lt (tgt := 69) dL_cargo_51 (by decide) ⟨by omega, by omega⟩ (fun h => absurd h (by omega)) (fun hb51 => ?_)
  refine x_iload_n dL_cargo_54 rfl ?_
  refine x_if_ne (tgt := 73) dL_cargo_55 (by decide) ⟨by omega, by omega⟩ (fun h => absurd h (by omega)) (fun hb55 => ?_)
  refine x_iload_n dL_cargo_58 rfl ?_
  refine x_aload_n dL_cargo_59 rfl ?_
  refine x_iload dL_cargo_60 rfl ?_
  refine x_iconst dL_cargo_62 ?_
  refine c_RL_25d dL_cargo_63 rfl (to_1 hP ht bp) (Nat.le_of_ble_eq_true rfl) (Nat.le_of_ble_eq_true rfl) ⟨Nat.le_refl _, Nat.le_refl _⟩ ?_
  refine x_ic_le (tgt := 73) dL_cargo_66 (by decide) ⟨by omega, by omega⟩ ⟨by omega, by omega⟩ (fun hb66 => ?_) (fun h => (h (by omega)).elim)
  refine x_iconst dL_cargo_73 ?_
  refine x_istore dL_cargo_74 (by decide) ?_
  show JX _ _ _ _ _ _ _ _ _ _ _ [_, _, _, _, _, _, _, _, _, _, _, _] _ _
  refine x_iload_n dL_cargo_76 rfl ?_
  refine x_if_eq (tgt := 91) dL_cargo_77 (by decide) ⟨by omega, by omega⟩ (fun hb77 => ?_) (fun h => (h (by omega)).elim)
  refine x_iload dL_cargo_91 rfl ?_
  refine x_if_eq (tgt := 101) dL_cargo_93 (by decide) ⟨by omega, by omega⟩ (fun hb93 => ?_) (fun h => (h (by omega)).elim)
  refine x_iconst dL_cargo_101 ?_
  refine x_istore dL_cargo_102 (by decide) ?_
  show JX _ _ _ _ _ _ _ _ _ _ _ [_, _, _, _, _, _, _, _, _, _, _, _] _ _
  refine x_iload_n dL_cargo_104 rfl ?_
  refine x_if_eq (tgt := 117) dL_cargo_105 (by decide) ⟨by omega, by omega⟩ (fun hb105 => ?_) (fun h => (h (by omega)).elim)
  refine x_aload_n dL_cargo_117 rfl ?_
  refine x_iload_n dL_cargo_118 rfl ?_
  refine x_iload_n dL_cargo_119 rfl ?_
  refine c_RL_75p dL_cargo_120 rfl (kX7_pump hP.1 (Or.inl rfl) hP.2.1 ht2 ⟨by omega, by omega⟩ ⟨by omega, by omega⟩) bk (Nat.le_of_ble_eq_true rfl) (Nat.le_of_ble_eq_true rfl) ⟨Nat.le_refl _, Nat.le_refl _⟩ (fun w2 D2 h2 => ?_)
  obtain ⟨rfl, hP2⟩ := hP.some hz h2
  have hI2 := hP2.2.1.2.2.2.1
  have cB2 := hI2.bB ht2 hk2
  have ht3 : t + 100 + 100 ≤ 60000 := by omega
  rw [mD] at cB2
  refine x_istore dL_cargo_123 (by decide) ?_
  show JX _ _ _ _ _ _ _ _ _ _ _ [_, _, _, _, _, _, _, _, _, _, _, _] _ _
  refine x_iload dL_cargo_125 rfl ?_
  refine x_if_le (tgt := 165) dL_cargo_127 (by decide) ⟨by omega, by omega⟩ (fun hb127 => ?_) (fun h => (h (by omega)).elim)
  refine x_iload_n dL_cargo_165 rfl ?_
  refine x_if_eq (tgt := 178) dL_cargo_166 (by decide) ⟨by omega, by omega⟩ (fun hb166 => ?_) (fun h => (h (by omega)).elim)
  refine x_aload_n dL_cargo_178 rfl ?_
  refine x_iload_n dL_cargo_179 rfl ?_
  refine x_iconst dL_cargo_180 ?_
  refine c_RL_75p dL_cargo_181 rfl (kX7_pump hP2.1 (Or.inl rfl) hP2.2.1 ht3 ⟨by omega, by omega⟩ ⟨by omega, by omega⟩) bk (Nat.le_of_ble_eq_true rfl) (Nat.le_of_ble_eq_true rfl) ⟨Nat.le_refl _, Nat.le_refl _⟩ (fun w3 D3 h3 => ?_)
  obtain ⟨rfl, hP3⟩ := hP2.err hz2 h3
  replace hP3 := hP3.mono (show t + 100 + 100 ≤ t + 200 by omega)
  have ht4 : t + 200 ≤ 60000 := by omega
  refine x_ldc (e := -100000002) dL_cargo_184 ct_RL_37 (by decide) ?_
  refine x_ic_ne (tgt := 193) dL_cargo_186 (by decide) ⟨by omega, by omega⟩ ⟨by omega, by omega⟩ (fun h => absurd h (by omega)) (fun hb186 => ?_)
  refine x_iconst dL_cargo_189 ?_
  refine x_goto (tgt := 194) dL_cargo_190 (by decide) ?_
  refine x_istore dL_cargo_194 (by decide) ?_
  show JX _ _ _ _ _ _ _ _ _ _ _ [_, _, _, _, _, _, _, _, _, _, _, _] _ _
  refine x_iload dL_cargo_196 rfl ?_
  refine x_if_eq (tgt := 263) dL_cargo_198 (by decide) ⟨by omega, by omega⟩ (fun h => absurd h (by omega)) (fun hb198 => ?_)
  refine x_iload dL_cargo_201 rfl ?_
  refine x_aload_n dL_cargo_203 rfl ?_
  refine x_iload_n dL_cargo_204 rfl ?_
  refine x_iconst dL_cargo_205 ?_
  refine c_RL_22d dL_cargo_206 rfl (tb_2 hP3 ht4 hk2) bk (Nat.le_of_ble_eq_true rfl) (Nat.le_of_ble_eq_true rfl) ⟨Nat.le_refl _, Nat.le_refl _⟩ ?_
  rw [mD]
  refine x_ic_ne (tgt := 263) dL_cargo_209 (by decide) ⟨by omega, by omega⟩ ⟨by omega, by omega⟩ (fun h => absurd h (by omega)) (fun hb209 => ?_)
  refine x_aload_n dL_cargo_212 rfl ?_
  refine x_iload_n dL_cargo_213 rfl ?_
  refine x_iconst dL_cargo_214 ?_
  refine c_RL_22d dL_cargo_215 rfl (tb_1 hP3 ht4 hk2) bk (Nat.le_of_ble_eq_true rfl) (Nat.le_of_ble_eq_true rfl) ⟨Nat.le_refl _, Nat.le_refl _⟩ ?_
  refine x_iload dL_cargo_218 rfl ?_
  refine x_iload_n dL_cargo_220 rfl ?_
  refine x_iadd dL_cargo_221 ?_
  refine x_ic_ne (tgt := 263) dL_cargo_222 (by decide) ⟨by omega, by omega⟩ ⟨by omega, by omega⟩ (fun h => absurd h (by omega)) (fun hb222 => ?_)
  refine x_aload_n dL_cargo_225 rfl ?_
  refine x_iload_n dL_cargo_226 rfl ?_
  refine x_iconst dL_cargo_227 ?_
  refine c_RL_22d dL_cargo_228 rfl (tb_5 hP3 ht4 hk2) bk (Nat.le_of_ble_eq_true rfl) (Nat.le_of_ble_eq_true rfl) ⟨Nat.le_refl _, Nat.le_refl _⟩ ?_
  refine x_iload dL_cargo_231 rfl ?_
  refine x_iload_n dL_cargo_233 rfl ?_
  refine x_isub dL_cargo_234 ?_
  refine x_ic_ne (tgt := 263) dL_cargo_235 (by decide) ⟨by omega, by omega⟩ ⟨by omega, by omega⟩ (fun h => absurd h (by omega)) (fun hb235 => ?_)
  refine x_aload_n dL_cargo_238 rfl ?_
  refine x_iload_n dL_cargo_239 rfl ?_
  refine x_iload_n dL_cargo_240 rfl ?_
  refine x_if_eq (tgt := 248) dL_cargo_241 (by decide) ⟨by omega, by omega⟩ (fun hb241 => ?_) (fun h => (h (by omega)).elim)
  refine x_iconst dL_cargo_248 ?_
  refine c_RL_22d dL_cargo_249 rfl (tb_4 hP3 ht4 hk2) bk (Nat.le_of_ble_eq_true rfl) (Nat.le_of_ble_eq_true rfl) ⟨Nat.le_refl _, Nat.le_refl _⟩ ?_
  refine x_iload dL_cargo_252 rfl ?_
  refine x_iload_n dL_cargo_254 rfl ?_
  refine x_iadd dL_cargo_255 ?_
  refine x_ic_ne (tgt := 263) dL_cargo_256 (by decide) ⟨by omega, by omega⟩ ⟨by omega, by omega⟩ (fun h => absurd h (by omega)) (fun hb256 => ?_)
  refine x_iconst dL_cargo_259 ?_
  refine x_goto (tgt := 264) dL_cargo_260 (by decide) ?_
  exact x_ireturn dL_cargo_264 rfl (jbool (by first | exact Or.inl rfl | exact Or.inr rfl)).1 ⟨Nat.le_refl _, Nat.le_refl _⟩ ⟨rfl, _, rfl, rfl, _, _, _, _, hP3, hE3, k1a, k2a⟩
theorem kL_cargo_1 {G : JG} {S : JS} {D : JD} {d : Nat} {X t n q : Int} {hs : Int → Int → Int} {r : Int → Int} {e : Int} {k v : Int} (hP : pSt S D X t n hs r q) (hE : pIn e r) (t0 : 0 ≤ t) (ht2 : t + 200 ≤ 60000) (hk : 0 ≤ k ∧ k < r 2) (hv : v ≠ 0 ∧ -1000 ≤ v ∧ v ≤ 1000) : JM G yL_cargo cL_cargo 12 (some .boolean) (d + 7) (0, 0) S D [.inr (.inr (some X)), .inl k, .inl v, .inl 1] (jOK S X (t + 200) e (r 1) (r 2)) := by
  by_cases hw : r (68 + 8 * k) - r (69 + 8 * k) - r (70 + 8 * k) < v
  · by_cases hp : 100 ≤ r (71 + 8 * k)
    · exact cargo_14a hP hE t0 ht2 hk hv hw hp
    · exact cargo_18a hP hE t0 ht2 hk hv hw hp
  by_cases hw1 : r (69 + 8 * k) + v < 0
  · by_cases hp : 100 ≤ r (71 + 8 * k)
    · exact cargo_14b hP hE t0 ht2 hk hv hw hw1 hp
    · exact cargo_18b hP hE t0 ht2 hk hv hw hw1 hp
  by_cases hp : 100 ≤ r (71 + 8 * k)
  · exact cargo_14c hP hE t0 ht2 hk hv hw hw1 hp
  · exact cargo_10c hP hE t0 ht2 hk hv hw hw1 hp
theorem kL_cargo_0 {G : JG} {S : JS} {D : JD} {d : Nat} {X t n q : Int} {hs : Int → Int → Int} {r : Int → Int} {e : Int} {k v : Int} (hP : pSt S D X t n hs r q) (hE : pIn e r) (t0 : 0 ≤ t) (ht2 : t + 200 ≤ 60000) (hk : 0 ≤ k ∧ k < r 2) (hv : v ≠ 0 ∧ -1000 ≤ v ∧ v ≤ 1000) : JM G yL_cargo cL_cargo 12 (some .boolean) (d + 7) (0, 0) S D [.inr (.inr (some X)), .inl k, .inl v, .inl 0] (jOK S X (t + 200) e (r 1) (r 2)) := by
  by_cases hw : r (68 + 8 * k) - r (69 + 8 * k) - r (70 + 8 * k) < v
  · exact cargo_08a hP hE t0 ht2 hk hv hw
  by_cases hw1 : r (70 + 8 * k) + v < 0
  · exact cargo_08b hP hE t0 ht2 hk hv hw hw1
  by_cases hw2 : r (wA (r (71 + 8 * k)) + 2) < v
  · exact cargo_08d hP hE t0 ht2 hk hv hw hw1 hw2
  · exact cargo_00c hP hE t0 ht2 hk hv hw hw1 hw2
