/-! THE REFERENCE: depths, levels, draughts -/
theorem rIn.wat {t : Int} {r : Int → Int} (hI : rIn t r) (ht : t ≤ 60000) {p : Int} (hp : rPl r p) : rWo r p ∧ r (wA p + 2) ≤ 650000000 ∧ 6 ≤ wA p ∧ wA p < 58 ∧ 0 ≤ p ∧ p < 200 := by
  have b1 := hI.1
  have m := hI.maxw ht
  rcases hp.two hI 0 with ⟨q0, q1, q2, q3, -⟩ | ⟨c, q, q0, q1, q2, q3, -⟩
  · refine ⟨hI.2.1 p q0 q1, by rw [q3]; exact m.2.1 p q0 q1, by omega, by omega, by omega, by omega⟩
  · refine ⟨by rw [q]; exact (hI.2.2.1 c q0 q1).1, by rw [q3]; exact m.2.2 c q0 q1, by omega, by omega, by omega, by omega⟩
theorem kX8_deep {G : JG} {S : JS} {D : JD} {d : Nat} {M t : Int} {r : Int → Int} {p : Int} (hM : jMo S M) (hr : D (M + 1) = r) (hI : rIn t r) (ht : t ≤ 60000) (hp : rPl r p) : JM G yX8_deep cX8_deep 3 (some .int) (d + 3) (0, 0) S D [.inr (.inr (some M)), .inl p] (jr (.inl (sDp r p)) S D) := by
  have hM0 := hM
  obtain ⟨mk, m0, m1, m2, m4, m5, m8, m12, y1, l1, y2, l2, y3, l3, y4, l4, y5, l5, y6, l6, y7, l7⟩ := id hM
  have hr0 := hr
  have b1 := hI.1
  obtain ⟨wo, wm, a0, a1, p0, p1⟩ := hI.wat ht hp
  have dp := hI.dp wo wm
  have fl := hI.floats p
  unfold rWo at wo
  show JX _ _ _ _ _ _ _ _ _ _ _ [_, _, _] _ _
  refine x_iload_n dX8_deep_0 rfl ?_
  refine c_RX8_68d dX8_deep_1 rfl (kX8_waterAt ⟨by omega, by omega⟩) (Nat.le_of_ble_eq_true rfl) (Nat.le_of_ble_eq_true rfl) ⟨Nat.le_refl _, Nat.le_refl _⟩ ?_
  refine x_istore_n dX8_deep_4 (by decide) ?_
  show JX _ _ _ _ _ _ _ _ _ _ _ [_, _, _] _ _
  refine x_aload_n dX8_deep_5 rfl ?_
  refine gf_RX8_7 dX8_deep_6 rfl (by assumption) ?_
  rw [m0]
  refine x_iload_n dX8_deep_9 rfl ?_
  refine x_iconst dX8_deep_10 ?_
  refine x_iadd dX8_deep_11 ?_
  refine x_iald dX8_deep_12 (by assumption) ⟨by omega, by omega⟩ ?_
  rw [hr]
  refine x_i2l dX8_deep_13 ⟨by omega, by omega⟩ ?_
  refine x_aload_n dX8_deep_14 rfl ?_
  refine x_iload_n dX8_deep_15 rfl ?_
  refine c_RX8_71d dX8_deep_16 rfl (kX8_floats hM0 hr0 hI ⟨by omega, by omega⟩) (by assumption) (Nat.le_of_ble_eq_true rfl) (Nat.le_of_ble_eq_true rfl) ⟨Nat.le_refl _, Nat.le_refl _⟩ ?_
  refine x_i2l dX8_deep_19 ⟨by omega, by omega⟩ ?_
  refine x_ladd dX8_deep_20 ?_
  refine x_ldc2 (e := 100) dX8_deep_21 ctl_RX8_74 (by decide) ?_
  refine x_lmul dX8_deep_24 ?_
  refine x_aload_n dX8_deep_25 rfl ?_
  refine gf_RX8_7 dX8_deep_26 rfl (by assumption) ?_
  rw [m0]
  refine x_iload_n dX8_deep_29 rfl ?_
  refine x_iconst dX8_deep_30 ?_
  refine x_iadd dX8_deep_31 ?_
  refine x_iald dX8_deep_32 (by assumption) ⟨by omega, by omega⟩ ?_
  rw [hr, Int.add_zero]
  refine x_i2l dX8_deep_33 ⟨by omega, by omega⟩ ?_
  refine x_ldiv dX8_deep_34 ⟨by omega, by omega⟩ ⟨by omega, by omega⟩ (by omega) ?_
  refine x_l2i dX8_deep_35 ?_
  exact x_ireturn dX8_deep_36 rfl rfl ⟨Nat.le_refl _, Nat.le_refl _⟩ ⟨by unfold sDp; rw [Int.tdiv_eq_ediv_of_nonneg (by omega)], rfl, rfl⟩
theorem kX8_level {G : JG} {S : JS} {D : JD} {d : Nat} {M t : Int} {r : Int → Int} {p : Int} (hM : jMo S M) (hr : D (M + 1) = r) (hI : rIn t r) (ht : t ≤ 60000) (hp : rPl r p) : JM G yX8_level cX8_level 2 (some .int) (d + 4) (0, 0) S D [.inr (.inr (some M)), .inl p] (jr (.inl (sLv r p)) S D) := by
  have hM0 := hM
  obtain ⟨mk, m0, m1, m2, m4, m5, m8, m12, y1, l1, y2, l2, y3, l3, y4, l4, y5, l5, y6, l6, y7, l7⟩ := id hM
  have hr0 := hr
  have b1 := hI.1
  obtain ⟨wo, wm, a0, a1, p0, p1⟩ := hI.wat ht hp
  have dp := hI.dp wo wm
  have fl := hI.floats p
  unfold rWo at wo
  show JX _ _ _ _ _ _ _ _ _ _ _ [_, _] _ _
  refine x_aload_n dX8_level_0 rfl ?_
  refine gf_RX8_7 dX8_level_1 rfl (by assumption) ?_
  rw [m0]
  refine x_iload_n dX8_level_4 rfl ?_
  refine c_RX8_68d dX8_level_5 rfl (kX8_waterAt ⟨by omega, by omega⟩) (Nat.le_of_ble_eq_true rfl) (Nat.le_of_ble_eq_true rfl) ⟨Nat.le_refl _, Nat.le_refl _⟩ ?_
  refine x_iconst dX8_level_8 ?_
  refine x_iadd dX8_level_9 ?_
  refine x_iald dX8_level_10 (by assumption) ⟨by omega, by omega⟩ ?_
  rw [hr]
  refine x_aload_n dX8_level_11 rfl ?_
  refine x_iload_n dX8_level_12 rfl ?_
  refine c_RX8_76d dX8_level_13 rfl (kX8_deep hM0 hr0 hI ht hp) (by assumption) (Nat.le_of_ble_eq_true rfl) (Nat.le_of_ble_eq_true rfl) ⟨Nat.le_refl _, Nat.le_refl _⟩ ?_
  refine x_iadd dX8_level_16 ?_
  exact x_ireturn dX8_level_17 rfl rfl ⟨Nat.le_refl _, Nat.le_refl _⟩ ⟨rfl, rfl, rfl⟩
theorem kX8_draught {G : JG} {S : JS} {D : JD} {d : Nat} {M t : Int} {r : Int → Int} {k : Int} (hM : jMo S M) (hr : D (M + 1) = r) (hI : rIn t r) (ht : t ≤ 60000) (k0 : 0 ≤ k) (k1 : k < r 2) : JM G yX8_draught cX8_draught 2 (some .int) (d + 2) (0, 0) S D [.inr (.inr (some M)), .inl k] (jr (.inl (sDr r k)) S D) := by
  have hM0 := hM
  obtain ⟨mk, m0, m1, m2, m4, m5, m8, m12, y1, l1, y2, l2, y3, l3, y4, l4, y5, l5, y6, l6, y7, l7⟩ := id hM
  have hr0 := hr
  have b1 := hI.1
  obtain ⟨bp, w0, w1, i0, i1, d0, d1⟩ := hI.bw k0 k1
  show JX _ _ _ _ _ _ _ _ _ _ _ [_, _] _ _
  refine x_aload_n dX8_draught_0 rfl ?_
  refine x_iload_n dX8_draught_1 rfl ?_
  refine c_RX8_64d dX8_draught_2 rfl (kX8_weight hM0 hr0 k0 (by omega)) (by assumption) (Nat.le_of_ble_eq_true rfl) (Nat.le_of_ble_eq_true rfl) ⟨Nat.le_refl _, Nat.le_refl _⟩ ?_
  refine x_aload_n dX8_draught_5 rfl ?_
  refine x_iload_n dX8_draught_6 rfl ?_
  refine x_iconst dX8_draught_7 ?_
  refine c_RX8_60d dX8_draught_8 rfl (kX8_of hM0 hr0 (by omega) (by omega)) (by assumption) (Nat.le_of_ble_eq_true rfl) (Nat.le_of_ble_eq_true rfl) ⟨Nat.le_refl _, Nat.le_refl _⟩ ?_
  rw [show 65 + 8 * k + 2 = 67 + 8 * k by omega]
  refine x_iadd dX8_draught_11 ?_
  refine x_iconst dX8_draught_12 ?_
  refine x_isub dX8_draught_13 ?_
  refine x_aload_n dX8_draught_14 rfl ?_
  refine x_iload_n dX8_draught_15 rfl ?_
  refine x_iconst dX8_draught_16 ?_
  refine c_RX8_60d dX8_draught_17 rfl (kX8_of hM0 hr0 (by omega) (by omega)) (by assumption) (Nat.le_of_ble_eq_true rfl) (Nat.le_of_ble_eq_true rfl) ⟨Nat.le_refl _, Nat.le_refl _⟩ ?_
  rw [show 65 + 8 * k + 2 = 67 + 8 * k by omega]
  refine x_idiv dX8_draught_20 ⟨by omega, by omega⟩ ⟨by omega, by omega⟩ (by omega) ?_
  exact x_ireturn dX8_draught_21 rfl rfl ⟨Nat.le_refl _, Nat.le_refl _⟩ ⟨by unfold sDr; rw [Int.tdiv_eq_ediv_of_nonneg (by omega)], rfl, rfl⟩
theorem kX8_isAground {G : JG} {S : JS} {D : JD} {d : Nat} {M t : Int} {r : Int → Int} {k : Int} (hM : jMo S M) (hr : D (M + 1) = r) (hI : rIn t r) (ht : t ≤ 60000) (k0 : 0 ≤ k) (k1 : k < r 2) : JM G yX8_isAground cX8_isAground 2 (some .boolean) (d + 4) (0, 0) S D [.inr (.inr (some M)), .inl k] (jr (.inl (if sDp r (r (71 + 8 * k)) < sDr r k then 1 else 0)) S D) := by
  have hM0 := hM
  obtain ⟨mk, m0, m1, m2, m4, m5, m8, m12, y1, l1, y2, l2, y3, l3, y4, l4, y5, l5, y6, l6, y7, l7⟩ := id hM
  have hr0 := hr
  have b1 := hI.1
  obtain ⟨bp, w0, w1, i0, i1, d0, d1⟩ := hI.bw k0 k1
  obtain ⟨wo, wm, a0, a1, p0, p1⟩ := hI.wat ht bp
  have dp := hI.dp wo wm
  show JX _ _ _ _ _ _ _ _ _ _ _ [_, _] _ _
  refine x_aload_n dX8_isAground_0 rfl ?_
  refine x_aload_n dX8_isAground_1 rfl ?_
  refine x_iload_n dX8_isAground_2 rfl ?_
  refine x_bipush dX8_isAground_3 (by decide) ?_
  refine c_RX8_60d dX8_isAground_5 rfl (kX8_of hM0 hr0 (by omega) (by omega)) (by assumption) (Nat.le_of_ble_eq_true rfl) (Nat.le_of_ble_eq_true rfl) ⟨Nat.le_refl _, Nat.le_refl _⟩ ?_
  rw [show 65 + 8 * k + 6 = 71 + 8 * k by omega]
  refine c_RX8_76d dX8_isAground_8 rfl (kX8_deep hM0 hr0 hI ht bp) (by assumption) (Nat.le_of_ble_eq_true rfl) (Nat.le_of_ble_eq_true rfl) ⟨Nat.le_refl _, Nat.le_refl _⟩ ?_
  refine x_aload_n dX8_isAground_11 rfl ?_
  refine x_iload_n dX8_isAground_12 rfl ?_
  refine c_RX8_79d dX8_isAground_13 rfl (kX8_draught hM0 hr0 hI ht k0 k1) (by assumption) (Nat.le_of_ble_eq_true rfl) (Nat.le_of_ble_eq_true rfl) ⟨Nat.le_refl _, Nat.le_refl _⟩ ?_
  refine x_ic_ge (tgt := 23) dX8_isAground_16 (by decide) ⟨by omega, by omega⟩ ⟨by omega, by omega⟩ (fun hb16 => ?_) (fun hb16 => ?_)
  · refine x_iconst dX8_isAground_23 ?_
    exact x_ireturn dX8_isAground_24 rfl (jbool (by first | exact Or.inl rfl | exact Or.inr rfl)).1 ⟨Nat.le_refl _, Nat.le_refl _⟩ ⟨by first | rw [if_pos (by omega)] | rw [if_neg (by omega)], rfl, rfl⟩
  · refine x_iconst dX8_isAground_19 ?_
    refine x_goto (tgt := 24) dX8_isAground_20 (by decide) ?_
    exact x_ireturn dX8_isAground_24 rfl (jbool (by first | exact Or.inl rfl | exact Or.inr rfl)).1 ⟨Nat.le_refl _, Nat.le_refl _⟩ ⟨by first | rw [if_pos (by omega)] | rw [if_neg (by omega)], rfl, rfl⟩
theorem kX8_canPass {G : JG} {S : JS} {D : JD} {d : Nat} {M t : Int} {r : Int → Int} {k c g : Int} (hM : jMo S M) (hr : D (M + 1) = r) (hI : rIn t r) (ht : t ≤ 60000) (k0 : 0 ≤ k) (k1 : k < r 2) (c0 : 0 ≤ c) (c1 : c < r 1) (hg : g = 0 ∨ g = 1) : JM G yX8_canPass cX8_canPass 4 (some .boolean) (d + 5) (0, 0) S D [.inr (.inr (some M)), .inl k, .inl c, .inl g] (jr (.inl (if gDeep r k c g then 0 else 1)) S D) := by
  have hM0 := hM
  obtain ⟨mk, m0, m1, m2, m4, m5, m8, m12, y1, l1, y2, l2, y3, l3, y4, l4, y5, l5, y6, l6, y7, l7⟩ := id hM
  have hr0 := hr
  have b1 := hI.1
  obtain ⟨bp, w0, w1, i0, i1, d0, d1⟩ := hI.bw k0 k1
  have hp : rPl r (100 + c) := Or.inr ⟨by omega, by omega⟩
  obtain ⟨wo, wm, a0, a1, p0, p1⟩ := hI.wat ht hp
  have dp := hI.dp wo wm
  have hh := sHg_r hI c0 c1 hg
  unfold gDeep
  show JX _ _ _ _ _ _ _ _ _ _ _ [_, _, _, _] _ _
  refine x_aload_n dX8_canPass_0 rfl ?_
  refine x_bipush dX8_canPass_1 (by decide) ?_
  refine x_iload_n dX8_canPass_3 rfl ?_
  refine x_iadd dX8_canPass_4 ?_
  refine c_RX8_126d dX8_canPass_5 rfl (kX8_level hM0 hr0 hI ht hp) (by assumption) (Nat.le_of_ble_eq_true rfl) (Nat.le_of_ble_eq_true rfl) ⟨Nat.le_refl _, Nat.le_refl _⟩ ?_
  refine x_aload_n dX8_canPass_8 rfl ?_
  refine x_iload_n dX8_canPass_9 rfl ?_
  refine x_iload_n dX8_canPass_10 rfl ?_
  refine c_RX8_159d dX8_canPass_11 rfl (kX8_sillHeight hM0 hr0 c0 (by omega) hg) (by assumption) (Nat.le_of_ble_eq_true rfl) (Nat.le_of_ble_eq_true rfl) ⟨Nat.le_refl _, Nat.le_refl _⟩ ?_
  refine x_isub dX8_canPass_14 ?_
  refine x_aload_n dX8_canPass_15 rfl ?_
  refine x_iload_n dX8_canPass_16 rfl ?_
  refine c_RX8_79d dX8_canPass_17 rfl (kX8_draught hM0 hr0 hI ht k0 k1) (by assumption) (Nat.le_of_ble_eq_true rfl) (Nat.le_of_ble_eq_true rfl) ⟨Nat.le_refl _, Nat.le_refl _⟩ ?_
  refine x_aload_n dX8_canPass_20 rfl ?_
  refine gf_RX8_7 dX8_canPass_21 rfl (by assumption) ?_
  rw [m0]
  refine x_iconst dX8_canPass_24 ?_
  refine x_iald dX8_canPass_25 (by assumption) ⟨by omega, by omega⟩ ?_
  rw [hr]
  refine x_iadd dX8_canPass_26 ?_
  refine x_ic_lt (tgt := 34) dX8_canPass_27 (by decide) ⟨by omega, by omega⟩ ⟨by omega, by omega⟩ (fun hb27 => ?_) (fun hb27 => ?_)
  · refine x_iconst dX8_canPass_34 ?_
    exact x_ireturn dX8_canPass_35 rfl (jbool (by first | exact Or.inl rfl | exact Or.inr rfl)).1 ⟨Nat.le_refl _, Nat.le_refl _⟩ ⟨by first | rw [if_pos (by omega)] | rw [if_neg (by omega)], rfl, rfl⟩
  · refine x_iconst dX8_canPass_30 ?_
    refine x_goto (tgt := 35) dX8_canPass_31 (by decide) ?_
    exact x_ireturn dX8_canPass_35 rfl (jbool (by first | exact Or.inl rfl | exact Or.inr rfl)).1 ⟨Nat.le_refl _, Nat.le_refl _⟩ ⟨by first | rw [if_pos (by omega)] | rw [if_neg (by omega)], rfl, rfl⟩
