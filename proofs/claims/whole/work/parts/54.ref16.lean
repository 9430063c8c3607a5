/-! THE REFERENCE: what is told -/
theorem kX8_water_0 {G : JG} {S : JS} {D : JD} {d : Nat} {M t : Int} {r : Int → Int} {p : Int} (hM : jMo S M) (hr : D (M + 1) = r) (hI : rIn t r) (ht : t ≤ 60000) (hp : rPl r p) : JM G yX8_water cX8_water 4 (some .int) (d + 5) (0, 0) S D [.inr (.inr (some M)), .inl p, .inl 0] (jr (.inl (sLv r p)) S D) := by
  have hM0 := hM
  obtain ⟨mk, m0, m1, m2, m4, m5, m8, m12, y1, l1, y2, l2, y3, l3, y4, l4, y5, l5, y6, l6, y7, l7⟩ := id hM
  have hr0 := hr
  have b1 := hI.1
  obtain ⟨wo, wm, a0, a1, p0, p1⟩ := hI.wat ht hp
  have dp := hI.dp wo wm
  show JX _ _ _ _ _ _ _ _ _ _ _ [_, _, _, _] _ _
  refine x_iload_n dX8_water_0 rfl ?_
  refine c_RX8_68d dX8_water_1 rfl (kX8_waterAt ⟨by omega, by omega⟩) (Nat.le_of_ble_eq_true rfl) (Nat.le_of_ble_eq_true rfl) ⟨Nat.le_refl _, Nat.le_refl _⟩ ?_
  refine x_istore_n dX8_water_4 (by decide) ?_
  show JX _ _ _ _ _ _ _ _ _ _ _ [_, _, _, _] _ _
  refine x_iload_n dX8_water_5 rfl ?_
  refine x_switch (tgt := 40) dX8_water_6 ⟨by omega, by omega⟩ (by decide) (by decide) ?_
  refine x_aload_n dX8_water_40 rfl ?_
  refine x_iload_n dX8_water_41 rfl ?_
  refine c_RX8_126d dX8_water_42 rfl (kX8_level hM0 hr0 hI ht hp) (by assumption) (Nat.le_of_ble_eq_true rfl) (Nat.le_of_ble_eq_true rfl) ⟨Nat.le_refl _, Nat.le_refl _⟩ ?_
  exact x_ireturn dX8_water_45 rfl rfl ⟨Nat.le_refl _, Nat.le_refl _⟩ ⟨rfl, rfl, rfl⟩
theorem kX8_water_1 {G : JG} {S : JS} {D : JD} {d : Nat} {M t : Int} {r : Int → Int} {p : Int} (hM : jMo S M) (hr : D (M + 1) = r) (hI : rIn t r) (ht : t ≤ 60000) (hp : rPl r p) : JM G yX8_water cX8_water 4 (some .int) (d + 5) (0, 0) S D [.inr (.inr (some M)), .inl p, .inl 1] (jr (.inl (r (wA p + 2))) S D) := by
  have hM0 := hM
  obtain ⟨mk, m0, m1, m2, m4, m5, m8, m12, y1, l1, y2, l2, y3, l3, y4, l4, y5, l5, y6, l6, y7, l7⟩ := id hM
  have hr0 := hr
  have b1 := hI.1
  obtain ⟨wo, wm, a0, a1, p0, p1⟩ := hI.wat ht hp
  have dp := hI.dp wo wm
  show JX _ _ _ _ _ _ _ _ _ _ _ [_, _, _, _] _ _
  refine x_iload_n dX8_water_0 rfl ?_
  refine c_RX8_68d dX8_water_1 rfl (kX8_waterAt ⟨by omega, by omega⟩) (Nat.le_of_ble_eq_true rfl) (Nat.le_of_ble_eq_true rfl) ⟨Nat.le_refl _, Nat.le_refl _⟩ ?_
  refine x_istore_n dX8_water_4 (by decide) ?_
  show JX _ _ _ _ _ _ _ _ _ _ _ [_, _, _, _] _ _
  refine x_iload_n dX8_water_5 rfl ?_
  refine x_switch (tgt := 46) dX8_water_6 ⟨by omega, by omega⟩ (by decide) (by decide) ?_
  refine x_aload_n dX8_water_46 rfl ?_
  refine gf_RX8_7 dX8_water_47 rfl (by assumption) ?_
  rw [m0]
  refine x_iload_n dX8_water_50 rfl ?_
  refine x_iconst dX8_water_51 ?_
  refine x_iadd dX8_water_52 ?_
  refine x_iald dX8_water_53 (by assumption) ⟨by omega, by omega⟩ ?_
  rw [hr]
  exact x_ireturn dX8_water_54 rfl rfl ⟨Nat.le_refl _, Nat.le_refl _⟩ ⟨rfl, rfl, rfl⟩
theorem kX8_water_2 {G : JG} {S : JS} {D : JD} {d : Nat} {M t : Int} {r : Int → Int} {p : Int} (hM : jMo S M) (hr : D (M + 1) = r) (hI : rIn t r) (ht : t ≤ 60000) (hp : rPl r p) : JM G yX8_water cX8_water 4 (some .int) (d + 5) (0, 0) S D [.inr (.inr (some M)), .inl p, .inl 2] (jr (.inl (sFl r p)) S D) := by
  have hM0 := hM
  obtain ⟨mk, m0, m1, m2, m4, m5, m8, m12, y1, l1, y2, l2, y3, l3, y4, l4, y5, l5, y6, l6, y7, l7⟩ := id hM
  have hr0 := hr
  have b1 := hI.1
  obtain ⟨wo, wm, a0, a1, p0, p1⟩ := hI.wat ht hp
  have dp := hI.dp wo wm
  show JX _ _ _ _ _ _ _ _ _ _ _ [_, _, _, _] _ _
  refine x_iload_n dX8_water_0 rfl ?_
  refine c_RX8_68d dX8_water_1 rfl (kX8_waterAt ⟨by omega, by omega⟩) (Nat.le_of_ble_eq_true rfl) (Nat.le_of_ble_eq_true rfl) ⟨Nat.le_refl _, Nat.le_refl _⟩ ?_
  refine x_istore_n dX8_water_4 (by decide) ?_
  show JX _ _ _ _ _ _ _ _ _ _ _ [_, _, _, _] _ _
  refine x_iload_n dX8_water_5 rfl ?_
  refine x_switch (tgt := 55) dX8_water_6 ⟨by omega, by omega⟩ (by decide) (by decide) ?_
  refine x_aload_n dX8_water_55 rfl ?_
  refine x_iload_n dX8_water_56 rfl ?_
  refine c_RX8_71d dX8_water_57 rfl (kX8_floats hM0 hr0 hI ⟨by omega, by omega⟩) (by assumption) (Nat.le_of_ble_eq_true rfl) (Nat.le_of_ble_eq_true rfl) ⟨Nat.le_refl _, Nat.le_refl _⟩ ?_
  exact x_ireturn dX8_water_60 rfl rfl ⟨Nat.le_refl _, Nat.le_refl _⟩ ⟨rfl, rfl, rfl⟩
theorem kX8_water_3 {G : JG} {S : JS} {D : JD} {d : Nat} {M t : Int} {r : Int → Int} {p : Int} (hM : jMo S M) (hr : D (M + 1) = r) (hI : rIn t r) (ht : t ≤ 60000) (hp : rPl r p) : JM G yX8_water cX8_water 4 (some .int) (d + 5) (0, 0) S D [.inr (.inr (some M)), .inl p, .inl 3] (jr (.inl (sCn r p)) S D) := by
  have hM0 := hM
  obtain ⟨mk, m0, m1, m2, m4, m5, m8, m12, y1, l1, y2, l2, y3, l3, y4, l4, y5, l5, y6, l6, y7, l7⟩ := id hM
  have hr0 := hr
  have b1 := hI.1
  obtain ⟨wo, wm, a0, a1, p0, p1⟩ := hI.wat ht hp
  have dp := hI.dp wo wm
  show JX _ _ _ _ _ _ _ _ _ _ _ [_, _, _, _] _ _
  refine x_iload_n dX8_water_0 rfl ?_
  refine c_RX8_68d dX8_water_1 rfl (kX8_waterAt ⟨by omega, by omega⟩) (Nat.le_of_ble_eq_true rfl) (Nat.le_of_ble_eq_true rfl) ⟨Nat.le_refl _, Nat.le_refl _⟩ ?_
  refine x_istore_n dX8_water_4 (by decide) ?_
  show JX _ _ _ _ _ _ _ _ _ _ _ [_, _, _, _] _ _
  refine x_iload_n dX8_water_5 rfl ?_
  refine x_switch (tgt := 61) dX8_water_6 ⟨by omega, by omega⟩ (by decide) (by decide) ?_
  refine x_aload_n dX8_water_61 rfl ?_
  refine x_iload_n dX8_water_62 rfl ?_
  refine c_RX8_215d dX8_water_63 rfl (kX8_bargesIn hM0 hr0 hI ⟨by omega, by omega⟩) (by assumption) (Nat.le_of_ble_eq_true rfl) (Nat.le_of_ble_eq_true rfl) ⟨Nat.le_refl _, Nat.le_refl _⟩ ?_
  exact x_ireturn dX8_water_66 rfl rfl ⟨Nat.le_refl _, Nat.le_refl _⟩ ⟨rfl, rfl, rfl⟩
theorem kX8_water_4 {G : JG} {S : JS} {D : JD} {d : Nat} {M t : Int} {r : Int → Int} {p : Int} (hM : jMo S M) (hr : D (M + 1) = r) (hI : rIn t r) (ht : t ≤ 60000) (hp : rPl r p) : JM G yX8_water cX8_water 4 (some .int) (d + 5) (0, 0) S D [.inr (.inr (some M)), .inl p, .inl 4] (jr (.inl (r (wA p))) S D) := by
  have hM0 := hM
  obtain ⟨mk, m0, m1, m2, m4, m5, m8, m12, y1, l1, y2, l2, y3, l3, y4, l4, y5, l5, y6, l6, y7, l7⟩ := id hM
  have hr0 := hr
  have b1 := hI.1
  obtain ⟨wo, wm, a0, a1, p0, p1⟩ := hI.wat ht hp
  have dp := hI.dp wo wm
  show JX _ _ _ _ _ _ _ _ _ _ _ [_, _, _, _] _ _
  refine x_iload_n dX8_water_0 rfl ?_
  refine c_RX8_68d dX8_water_1 rfl (kX8_waterAt ⟨by omega, by omega⟩) (Nat.le_of_ble_eq_true rfl) (Nat.le_of_ble_eq_true rfl) ⟨Nat.le_refl _, Nat.le_refl _⟩ ?_
  refine x_istore_n dX8_water_4 (by decide) ?_
  show JX _ _ _ _ _ _ _ _ _ _ _ [_, _, _, _] _ _
  refine x_iload_n dX8_water_5 rfl ?_
  refine x_switch (tgt := 67) dX8_water_6 ⟨by omega, by omega⟩ (by decide) (by decide) ?_
  refine x_aload_n dX8_water_67 rfl ?_
  refine gf_RX8_7 dX8_water_68 rfl (by assumption) ?_
  rw [m0]
  refine x_iload_n dX8_water_71 rfl ?_
  refine x_iconst dX8_water_72 ?_
  refine x_iadd dX8_water_73 ?_
  refine x_iald dX8_water_74 (by assumption) ⟨by omega, by omega⟩ ?_
  rw [hr, Int.add_zero]
  exact x_ireturn dX8_water_75 rfl rfl ⟨Nat.le_refl _, Nat.le_refl _⟩ ⟨rfl, rfl, rfl⟩
theorem kX8_water_5 {G : JG} {S : JS} {D : JD} {d : Nat} {M t : Int} {r : Int → Int} {p : Int} (hM : jMo S M) (hr : D (M + 1) = r) (hI : rIn t r) (ht : t ≤ 60000) (hp : rPl r p) : JM G yX8_water cX8_water 4 (some .int) (d + 5) (0, 0) S D [.inr (.inr (some M)), .inl p, .inl 5] (jr (.inl (r (wA p + 1))) S D) := by
  have hM0 := hM
  obtain ⟨mk, m0, m1, m2, m4, m5, m8, m12, y1, l1, y2, l2, y3, l3, y4, l4, y5, l5, y6, l6, y7, l7⟩ := id hM
  have hr0 := hr
  have b1 := hI.1
  obtain ⟨wo, wm, a0, a1, p0, p1⟩ := hI.wat ht hp
  have dp := hI.dp wo wm
  show JX _ _ _ _ _ _ _ _ _ _ _ [_, _, _, _] _ _
  refine x_iload_n dX8_water_0 rfl ?_
  refine c_RX8_68d dX8_water_1 rfl (kX8_waterAt ⟨by omega, by omega⟩) (Nat.le_of_ble_eq_true rfl) (Nat.le_of_ble_eq_true rfl) ⟨Nat.le_refl _, Nat.le_refl _⟩ ?_
  refine x_istore_n dX8_water_4 (by decide) ?_
  show JX _ _ _ _ _ _ _ _ _ _ _ [_, _, _, _] _ _
  refine x_iload_n dX8_water_5 rfl ?_
  refine x_switch (tgt := 76) dX8_water_6 ⟨by omega, by omega⟩ (by decide) (by decide) ?_
  refine x_aload_n dX8_water_76 rfl ?_
  refine gf_RX8_7 dX8_water_77 rfl (by assumption) ?_
  rw [m0]
  refine x_iload_n dX8_water_80 rfl ?_
  refine x_iconst dX8_water_81 ?_
  refine x_iadd dX8_water_82 ?_
  refine x_iald dX8_water_83 (by assumption) ⟨by omega, by omega⟩ ?_
  rw [hr]
  exact x_ireturn dX8_water_84 rfl rfl ⟨Nat.le_refl _, Nat.le_refl _⟩ ⟨rfl, rfl, rfl⟩
theorem kX8_water {G : JG} {S : JS} {D : JD} {d : Nat} {M t : Int} {r : Int → Int} {p e : Int} (hM : jMo S M) (hr : D (M + 1) = r) (hI : rIn t r) (ht : t ≤ 60000) (hp : rPl r p) (he : 0 ≤ e ∧ e ≤ 5) : JM G yX8_water cX8_water 4 (some .int) (d + 5) (0, 0) S D [.inr (.inr (some M)), .inl p, .inl e] (jr (.inl (tWat r p e)) S D) := by
  rcases (show e = 0 ∨ e = 1 ∨ e = 2 ∨ e = 3 ∨ e = 4 ∨ e = 5 by omega) with rfl | rfl | rfl | rfl | rfl | rfl
  · exact kX8_water_0 hM hr hI ht hp
  · exact kX8_water_1 hM hr hI ht hp
  · exact kX8_water_2 hM hr hI ht hp
  · exact kX8_water_3 hM hr hI ht hp
  · exact kX8_water_4 hM hr hI ht hp
  · exact kX8_water_5 hM hr hI ht hp

theorem tWat_no {r : Int → Int} {p e : Int} (h : ¬ (0 ≤ e ∧ e ≤ 5)) : tWat r p e = -100000002 := by
  unfold tWat
  rw [if_neg (by omega), if_neg (by omega), if_neg (by omega), if_neg (by omega), if_neg (by omega), if_neg (by omega)]
theorem kX8_reach_u {G : JG} {S : JS} {D : JD} {d : Nat} {M t : Int} {r : Int → Int} {i e : Int} (hM : jMo S M) (hr : D (M + 1) = r) (hI : rIn t r) (ht : t ≤ 60000) (ri : i32 i) (h : ¬ (0 ≤ i ∧ i < r 0)) : JM G yX8_reach cX8_reach 3 (some .int) (d + 6) (0, 0) S D [.inr (.inr (some M)), .inl i, .inl e] (jr (.inl (-100000001)) S D) := by
  have hM0 := hM
  obtain ⟨mk, m0, m1, m2, m4, m5, m8, m12, y1, l1, y2, l2, y3, l3, y4, l4, y5, l5, y6, l6, y7, l7⟩ := id hM
  have hr0 := hr
  have b1 := hI.1
  show JX _ _ _ _ _ _ _ _ _ _ _ [_, _, _] _ _
  refine x_aload_n dX8_reach_0 rfl ?_
  refine x_iload_n dX8_reach_1 rfl ?_
  refine c_RX8_117d dX8_reach_2 rfl (kX8_noReach hM0 hr0 ri (by omega)) (by assumption) (Nat.le_of_ble_eq_true rfl) (Nat.le_of_ble_eq_true rfl) ⟨Nat.le_refl _, Nat.le_refl _⟩ ?_
  refine x_if_eq (tgt := 11) dX8_reach_5 (by decide) ⟨by split <;> omega, by split <;> omega⟩ (fun h => absurd h (by omega)) (fun hb5 => ?_)
  refine x_ldc (e := -100000001) dX8_reach_8 ct_RX8_41 (by decide) ?_
  exact x_ireturn dX8_reach_10 rfl rfl ⟨Nat.le_refl _, Nat.le_refl _⟩ ⟨rfl, rfl, rfl⟩
theorem kX8_reach_b {G : JG} {S : JS} {D : JD} {d : Nat} {M t : Int} {r : Int → Int} {i e : Int} (hM : jMo S M) (hr : D (M + 1) = r) (hI : rIn t r) (ht : t ≤ 60000) (h : 0 ≤ i ∧ i < r 0) (re : i32 e) (he : ¬ (0 ≤ e ∧ e ≤ 5)) : JM G yX8_reach cX8_reach 3 (some .int) (d + 6) (0, 0) S D [.inr (.inr (some M)), .inl i, .inl e] (jr (.inl (-100000002)) S D) := by
  have hM0 := hM
  obtain ⟨mk, m0, m1, m2, m4, m5, m8, m12, y1, l1, y2, l2, y3, l3, y4, l4, y5, l5, y6, l6, y7, l7⟩ := id hM
  have hr0 := hr
  have b1 := hI.1
  show JX _ _ _ _ _ _ _ _ _ _ _ [_, _, _] _ _
  refine x_aload_n dX8_reach_0 rfl ?_
  refine x_iload_n dX8_reach_1 rfl ?_
  refine c_RX8_117d dX8_reach_2 rfl (kX8_noReach hM0 hr0 ⟨by omega, by omega⟩ (by omega)) (by assumption) (Nat.le_of_ble_eq_true rfl) (Nat.le_of_ble_eq_true rfl) ⟨Nat.le_refl _, Nat.le_refl _⟩ ?_
  refine x_if_eq (tgt := 11) dX8_reach_5 (by decide) ⟨by split <;> omega, by split <;> omega⟩ (fun hb5 => ?_) (fun h => (h (by omega)).elim)
  refine x_iload_n dX8_reach_11 rfl ?_
  refine x_iconst dX8_reach_12 ?_
  refine x_iconst dX8_reach_13 ?_
  refine c_RX8_49d dX8_reach_14 rfl (kX8_in re ⟨by omega, by omega⟩ ⟨by omega, by omega⟩) (Nat.le_of_ble_eq_true rfl) (Nat.le_of_ble_eq_true rfl) ⟨Nat.le_refl _, Nat.le_refl _⟩ ?_
  refine x_if_eq (tgt := 29) dX8_reach_17 (by decide) ⟨by split <;> omega, by split <;> omega⟩ (fun hb17 => ?_) (fun h => (h (by omega)).elim)
  refine x_ldc (e := -100000002) dX8_reach_29 ct_RX8_104 (by decide) ?_
  exact x_ireturn dX8_reach_31 rfl rfl ⟨Nat.le_refl _, Nat.le_refl _⟩ ⟨rfl, rfl, rfl⟩
theorem kX8_reach_y {G : JG} {S : JS} {D : JD} {d : Nat} {M t : Int} {r : Int → Int} {i e : Int} (hM : jMo S M) (hr : D (M + 1) = r) (hI : rIn t r) (ht : t ≤ 60000) (h : 0 ≤ i ∧ i < r 0) (re : i32 e) (he : 0 ≤ e ∧ e ≤ 5) : JM G yX8_reach cX8_reach 3 (some .int) (d + 6) (0, 0) S D [.inr (.inr (some M)), .inl i, .inl e] (jr (.inl (tWat r i e)) S D) := by
  have hM0 := hM
  obtain ⟨mk, m0, m1, m2, m4, m5, m8, m12, y1, l1, y2, l2, y3, l3, y4, l4, y5, l5, y6, l6, y7, l7⟩ := id hM
  have hr0 := hr
  have b1 := hI.1
  show JX _ _ _ _ _ _ _ _ _ _ _ [_, _, _] _ _
  refine x_aload_n dX8_reach_0 rfl ?_
  refine x_iload_n dX8_reach_1 rfl ?_
  refine c_RX8_117d dX8_reach_2 rfl (kX8_noReach hM0 hr0 ⟨by omega, by omega⟩ (by omega)) (by assumption) (Nat.le_of_ble_eq_true rfl) (Nat.le_of_ble_eq_true rfl) ⟨Nat.le_refl _, Nat.le_refl _⟩ ?_
  refine x_if_eq (tgt := 11) dX8_reach_5 (by decide) ⟨by split <;> omega, by split <;> omega⟩ (fun hb5 => ?_) (fun h => (h (by omega)).elim)
  refine x_iload_n dX8_reach_11 rfl ?_
  refine x_iconst dX8_reach_12 ?_
  refine x_iconst dX8_reach_13 ?_
  refine c_RX8_49d dX8_reach_14 rfl (kX8_in re ⟨by omega, by omega⟩ ⟨by omega, by omega⟩) (Nat.le_of_ble_eq_true rfl) (Nat.le_of_ble_eq_true rfl) ⟨Nat.le_refl _, Nat.le_refl _⟩ ?_
  refine x_if_eq (tgt := 29) dX8_reach_17 (by decide) ⟨by split <;> omega, by split <;> omega⟩ (fun h => absurd h (by omega)) (fun hb17 => ?_)
  refine x_aload_n dX8_reach_20 rfl ?_
  refine x_iload_n dX8_reach_21 rfl ?_
  refine x_iload_n dX8_reach_22 rfl ?_
  refine c_RX8_218d dX8_reach_23 rfl (kX8_water hM0 hr0 hI ht (Or.inl h) he) (by assumption) (Nat.le_of_ble_eq_true rfl) (Nat.le_of_ble_eq_true rfl) ⟨Nat.le_refl _, Nat.le_refl _⟩ ?_
  refine x_goto (tgt := 31) dX8_reach_26 (by decide) ?_
  exact x_ireturn dX8_reach_31 rfl rfl ⟨Nat.le_refl _, Nat.le_refl _⟩ ⟨rfl, rfl, rfl⟩
theorem kX8_reach {G : JG} {S : JS} {D : JD} {d : Nat} {M t : Int} {r : Int → Int}  {i e : Int} (hM : jMo S M) (hr : D (M + 1) = r) (hI : rIn t r) (ht : t ≤ 60000) (ri : i32 i) (re : i32 e) : JM G yX8_reach cX8_reach 3 (some .int) (d + 6) (0, 0) S D [.inr (.inr (some M)), .inl i, .inl e] (jr (.inl (zReach i e r)) S D) := by
  unfold zReach
  by_cases h : 0 ≤ i ∧ i < r 0
  · rw [if_pos h]
    by_cases he : 0 ≤ e ∧ e ≤ 5
    · exact kX8_reach_y hM hr hI ht h re he
    · rw [tWat_no he]; exact kX8_reach_b hM hr hI ht h re he
  · rw [if_neg h]; exact kX8_reach_u hM hr hI ht ri h
theorem kX8_chamber_u {G : JG} {S : JS} {D : JD} {d : Nat} {M t : Int} {r : Int → Int} {k e : Int} (hM : jMo S M) (hr : D (M + 1) = r) (hI : rIn t r) (ht : t ≤ 60000) (rk : i32 k) (h : ¬ (0 ≤ k ∧ k < r 1)) : JM G yX8_chamber cX8_chamber 3 (some .int) (d + 6) (0, 0) S D [.inr (.inr (some M)), .inl k, .inl e] (jr (.inl (-100000001)) S D) := by
  have hM0 := hM
  obtain ⟨mk, m0, m1, m2, m4, m5, m8, m12, y1, l1, y2, l2, y3, l3, y4, l4, y5, l5, y6, l6, y7, l7⟩ := id hM
  have hr0 := hr
  have b1 := hI.1
  show JX _ _ _ _ _ _ _ _ _ _ _ [_, _, _] _ _
  refine x_aload_n dX8_chamber_0 rfl ?_
  refine x_iload_n dX8_chamber_1 rfl ?_
  refine c_RX8_56d dX8_chamber_2 rfl (kX8_noChamber hM0 hr0 rk (by omega)) (by assumption) (Nat.le_of_ble_eq_true rfl) (Nat.le_of_ble_eq_true rfl) ⟨Nat.le_refl _, Nat.le_refl _⟩ ?_
  refine x_if_eq (tgt := 11) dX8_chamber_5 (by decide) ⟨by split <;> omega, by split <;> omega⟩ (fun h => absurd h (by omega)) (fun hb5 => ?_)
  refine x_ldc (e := -100000001) dX8_chamber_8 ct_RX8_41 (by decide) ?_
  exact x_ireturn dX8_chamber_10 rfl rfl ⟨Nat.le_refl _, Nat.le_refl _⟩ ⟨rfl, rfl, rfl⟩
theorem kX8_chamber_w {G : JG} {S : JS} {D : JD} {d : Nat} {M t : Int} {r : Int → Int} {k e : Int} (hM : jMo S M) (hr : D (M + 1) = r) (hI : rIn t r) (ht : t ≤ 60000) (h : 0 ≤ k ∧ k < r 1) (re : i32 e) (he : 0 ≤ e ∧ e ≤ 5) : JM G yX8_chamber cX8_chamber 3 (some .int) (d + 6) (0, 0) S D [.inr (.inr (some M)), .inl k, .inl e] (jr (.inl (tWat r (100 + k) e)) S D) := by
  have hM0 := hM
  obtain ⟨mk, m0, m1, m2, m4, m5, m8, m12, y1, l1, y2, l2, y3, l3, y4, l4, y5, l5, y6, l6, y7, l7⟩ := id hM
  have hr0 := hr
  have b1 := hI.1
  show JX _ _ _ _ _ _ _ _ _ _ _ [_, _, _] _ _
  refine x_aload_n dX8_chamber_0 rfl ?_
  refine x_iload_n dX8_chamber_1 rfl ?_
  refine c_RX8_56d dX8_chamber_2 rfl (kX8_noChamber hM0 hr0 ⟨by omega, by omega⟩ (by omega)) (by assumption) (Nat.le_of_ble_eq_true rfl) (Nat.le_of_ble_eq_true rfl) ⟨Nat.le_refl _, Nat.le_refl _⟩ ?_
  refine x_if_eq (tgt := 11) dX8_chamber_5 (by decide) ⟨by split <;> omega, by split <;> omega⟩ (fun hb5 => ?_) (fun h => (h (by omega)).elim)
  refine x_iload_n dX8_chamber_11 rfl ?_
  refine x_iconst dX8_chamber_12 ?_
  refine x_iconst dX8_chamber_13 ?_
  refine c_RX8_49d dX8_chamber_14 rfl (kX8_in re ⟨by omega, by omega⟩ ⟨by omega, by omega⟩) (Nat.le_of_ble_eq_true rfl) (Nat.le_of_ble_eq_true rfl) ⟨Nat.le_refl _, Nat.le_refl _⟩ ?_
  refine x_if_eq (tgt := 30) dX8_chamber_17 (by decide) ⟨by split <;> omega, by split <;> omega⟩ (fun h => absurd h (by omega)) (fun hb17 => ?_)
  refine x_aload_n dX8_chamber_20 rfl ?_
  refine x_bipush dX8_chamber_21 (by decide) ?_
  refine x_iload_n dX8_chamber_23 rfl ?_
  refine x_iadd dX8_chamber_24 ?_
  refine x_iload_n dX8_chamber_25 rfl ?_
  refine c_RX8_218d dX8_chamber_26 rfl (kX8_water hM0 hr0 hI ht (Or.inr ⟨by omega, by omega⟩) he) (by assumption) (Nat.le_of_ble_eq_true rfl) (Nat.le_of_ble_eq_true rfl) ⟨Nat.le_refl _, Nat.le_refl _⟩ ?_
  exact x_ireturn dX8_chamber_29 rfl rfl ⟨Nat.le_refl _, Nat.le_refl _⟩ ⟨rfl, rfl, rfl⟩
theorem kX8_chamber_6 {G : JG} {S : JS} {D : JD} {d : Nat} {M t : Int} {r : Int → Int} {k : Int} (hM : jMo S M) (hr : D (M + 1) = r) (hI : rIn t r) (ht : t ≤ 60000) (h : 0 ≤ k ∧ k < r 1) : JM G yX8_chamber cX8_chamber 3 (some .int) (d + 6) (0, 0) S D [.inr (.inr (some M)), .inl k, .inl 6] (jr (.inl (r (24 + 11 * k))) S D) := by
  have hM0 := hM
  obtain ⟨mk, m0, m1, m2, m4, m5, m8, m12, y1, l1, y2, l2, y3, l3, y4, l4, y5, l5, y6, l6, y7, l7⟩ := id hM
  have hr0 := hr
  have b1 := hI.1
  show JX _ _ _ _ _ _ _ _ _ _ _ [_, _, _] _ _
  refine x_aload_n dX8_chamber_0 rfl ?_
  refine x_iload_n dX8_chamber_1 rfl ?_
  refine c_RX8_56d dX8_chamber_2 rfl (kX8_noChamber hM0 hr0 ⟨by omega, by omega⟩ (by omega)) (by assumption) (Nat.le_of_ble_eq_true rfl) (Nat.le_of_ble_eq_true rfl) ⟨Nat.le_refl _, Nat.le_refl _⟩ ?_
  refine x_if_eq (tgt := 11) dX8_chamber_5 (by decide) ⟨by split <;> omega, by split <;> omega⟩ (fun hb5 => ?_) (fun h => (h (by omega)).elim)
  refine x_iload_n dX8_chamber_11 rfl ?_
  refine x_iconst dX8_chamber_12 ?_
  refine x_iconst dX8_chamber_13 ?_
  refine c_RX8_49d dX8_chamber_14 rfl (kX8_in ⟨by omega, by omega⟩ ⟨by omega, by omega⟩ ⟨by omega, by omega⟩) (Nat.le_of_ble_eq_true rfl) (Nat.le_of_ble_eq_true rfl) ⟨Nat.le_refl _, Nat.le_refl _⟩ ?_
  refine x_if_eq (tgt := 30) dX8_chamber_17 (by decide) ⟨by split <;> omega, by split <;> omega⟩ (fun hb17 => ?_) (fun h => (h (by omega)).elim)
  refine x_iload_n dX8_chamber_30 rfl ?_
  refine x_switch (tgt := 72) dX8_chamber_31 ⟨by omega, by omega⟩ (by decide) (by decide) ?_
  refine x_aload_n dX8_chamber_72 rfl ?_
  refine x_iload_n dX8_chamber_73 rfl ?_
  refine x_iconst dX8_chamber_74 ?_
  refine c_RX8_89d dX8_chamber_75 rfl (kX8_chamberOf hM0 hr0 (by omega) (by omega)) (by assumption) (Nat.le_of_ble_eq_true rfl) (Nat.le_of_ble_eq_true rfl) ⟨Nat.le_refl _, Nat.le_refl _⟩ ?_
  rw [show 21 + 11 * k + 3 = 24 + 11 * k by omega]
  exact x_ireturn dX8_chamber_78 rfl rfl ⟨Nat.le_refl _, Nat.le_refl _⟩ ⟨rfl, rfl, rfl⟩
theorem kX8_chamber_7 {G : JG} {S : JS} {D : JD} {d : Nat} {M t : Int} {r : Int → Int} {k : Int} (hM : jMo S M) (hr : D (M + 1) = r) (hI : rIn t r) (ht : t ≤ 60000) (h : 0 ≤ k ∧ k < r 1) : JM G yX8_chamber cX8_chamber 3 (some .int) (d + 6) (0, 0) S D [.inr (.inr (some M)), .inl k, .inl 7] (jr (.inl (sLf r k)) S D) := by
  have hM0 := hM
  obtain ⟨mk, m0, m1, m2, m4, m5, m8, m12, y1, l1, y2, l2, y3, l3, y4, l4, y5, l5, y6, l6, y7, l7⟩ := id hM
  have hr0 := hr
  have b1 := hI.1
  show JX _ _ _ _ _ _ _ _ _ _ _ [_, _, _] _ _
  refine x_aload_n dX8_chamber_0 rfl ?_
  refine x_iload_n dX8_chamber_1 rfl ?_
  refine c_RX8_56d dX8_chamber_2 rfl (kX8_noChamber hM0 hr0 ⟨by omega, by omega⟩ (by omega)) (by assumption) (Nat.le_of_ble_eq_true rfl) (Nat.le_of_ble_eq_true rfl) ⟨Nat.le_refl _, Nat.le_refl _⟩ ?_
  refine x_if_eq (tgt := 11) dX8_chamber_5 (by decide) ⟨by split <;> omega, by split <;> omega⟩ (fun hb5 => ?_) (fun h => (h (by omega)).elim)
  refine x_iload_n dX8_chamber_11 rfl ?_
  refine x_iconst dX8_chamber_12 ?_
  refine x_iconst dX8_chamber_13 ?_
  refine c_RX8_49d dX8_chamber_14 rfl (kX8_in ⟨by omega, by omega⟩ ⟨by omega, by omega⟩ ⟨by omega, by omega⟩) (Nat.le_of_ble_eq_true rfl) (Nat.le_of_ble_eq_true rfl) ⟨Nat.le_refl _, Nat.le_refl _⟩ ?_
  refine x_if_eq (tgt := 30) dX8_chamber_17 (by decide) ⟨by split <;> omega, by split <;> omega⟩ (fun hb17 => ?_) (fun h => (h (by omega)).elim)
  refine x_iload_n dX8_chamber_30 rfl ?_
  refine x_switch (tgt := 79) dX8_chamber_31 ⟨by omega, by omega⟩ (by decide) (by decide) ?_
  refine x_aload_n dX8_chamber_79 rfl ?_
  refine x_iload_n dX8_chamber_80 rfl ?_
  refine c_RX8_165d dX8_chamber_81 rfl (kX8_lengthLeft hM0 hr0 hI h.1 h.2) (by assumption) (Nat.le_of_ble_eq_true rfl) (Nat.le_of_ble_eq_true rfl) ⟨Nat.le_refl _, Nat.le_refl _⟩ ?_
  exact x_ireturn dX8_chamber_84 rfl rfl ⟨Nat.le_refl _, Nat.le_refl _⟩ ⟨rfl, rfl, rfl⟩
theorem kX8_chamber_8 {G : JG} {S : JS} {D : JD} {d : Nat} {M t : Int} {r : Int → Int} {k : Int} (hM : jMo S M) (hr : D (M + 1) = r) (hI : rIn t r) (ht : t ≤ 60000) (h : 0 ≤ k ∧ k < r 1) : JM G yX8_chamber cX8_chamber 3 (some .int) (d + 6) (0, 0) S D [.inr (.inr (some M)), .inl k, .inl 8] (jr (.inl (r (29 + 11 * k))) S D) := by
  have hM0 := hM
  obtain ⟨mk, m0, m1, m2, m4, m5, m8, m12, y1, l1, y2, l2, y3, l3, y4, l4, y5, l5, y6, l6, y7, l7⟩ := id hM
  have hr0 := hr
  have b1 := hI.1
  show JX _ _ _ _ _ _ _ _ _ _ _ [_, _, _] _ _
  refine x_aload_n dX8_chamber_0 rfl ?_
  refine x_iload_n dX8_chamber_1 rfl ?_
  refine c_RX8_56d dX8_chamber_2 rfl (kX8_noChamber hM0 hr0 ⟨by omega, by omega⟩ (by omega)) (by assumption) (Nat.le_of_ble_eq_true rfl) (Nat.le_of_ble_eq_true rfl) ⟨Nat.le_refl _, Nat.le_refl _⟩ ?_
  refine x_if_eq (tgt := 11) dX8_chamber_5 (by decide) ⟨by split <;> omega, by split <;> omega⟩ (fun hb5 => ?_) (fun h => (h (by omega)).elim)
  refine x_iload_n dX8_chamber_11 rfl ?_
  refine x_iconst dX8_chamber_12 ?_
  refine x_iconst dX8_chamber_13 ?_
  refine c_RX8_49d dX8_chamber_14 rfl (kX8_in ⟨by omega, by omega⟩ ⟨by omega, by omega⟩ ⟨by omega, by omega⟩) (Nat.le_of_ble_eq_true rfl) (Nat.le_of_ble_eq_true rfl) ⟨Nat.le_refl _, Nat.le_refl _⟩ ?_
  refine x_if_eq (tgt := 30) dX8_chamber_17 (by decide) ⟨by split <;> omega, by split <;> omega⟩ (fun hb17 => ?_) (fun h => (h (by omega)).elim)
  refine x_iload_n dX8_chamber_30 rfl ?_
  refine x_switch (tgt := 85) dX8_chamber_31 ⟨by omega, by omega⟩ (by decide) (by decide) ?_
  refine x_aload_n dX8_chamber_85 rfl ?_
  refine x_iload_n dX8_chamber_86 rfl ?_
  refine c_RX8_92d dX8_chamber_87 rfl (kX8_openGate hM0 hr0 h.1 (by omega)) (by assumption) (Nat.le_of_ble_eq_true rfl) (Nat.le_of_ble_eq_true rfl) ⟨Nat.le_refl _, Nat.le_refl _⟩ ?_
  exact x_ireturn dX8_chamber_90 rfl rfl ⟨Nat.le_refl _, Nat.le_refl _⟩ ⟨rfl, rfl, rfl⟩
theorem kX8_chamber_9 {G : JG} {S : JS} {D : JD} {d : Nat} {M t : Int} {r : Int → Int} {k : Int} (hM : jMo S M) (hr : D (M + 1) = r) (hI : rIn t r) (ht : t ≤ 60000) (h : 0 ≤ k ∧ k < r 1) : JM G yX8_chamber cX8_chamber 3 (some .int) (d + 6) (0, 0) S D [.inr (.inr (some M)), .inl k, .inl 9] (jr (.inl (sHg r k 0)) S D) := by
  have hM0 := hM
  obtain ⟨mk, m0, m1, m2, m4, m5, m8, m12, y1, l1, y2, l2, y3, l3, y4, l4, y5, l5, y6, l6, y7, l7⟩ := id hM
  have hr0 := hr
  have b1 := hI.1
  show JX _ _ _ _ _ _ _ _ _ _ _ [_, _, _] _ _
  refine x_aload_n dX8_chamber_0 rfl ?_
  refine x_iload_n dX8_chamber_1 rfl ?_
  refine c_RX8_56d dX8_chamber_2 rfl (kX8_noChamber hM0 hr0 ⟨by omega, by omega⟩ (by omega)) (by assumption) (Nat.le_of_ble_eq_true rfl) (Nat.le_of_ble_eq_true rfl) ⟨Nat.le_refl _, Nat.le_refl _⟩ ?_
  refine x_if_eq (tgt := 11) dX8_chamber_5 (by decide) ⟨by split <;> omega, by split <;> omega⟩ (fun hb5 => ?_) (fun h => (h (by omega)).elim)
  refine x_iload_n dX8_chamber_11 rfl ?_
  refine x_iconst dX8_chamber_12 ?_
  refine x_iconst dX8_chamber_13 ?_
  refine c_RX8_49d dX8_chamber_14 rfl (kX8_in ⟨by omega, by omega⟩ ⟨by omega, by omega⟩ ⟨by omega, by omega⟩) (Nat.le_of_ble_eq_true rfl) (Nat.le_of_ble_eq_true rfl) ⟨Nat.le_refl _, Nat.le_refl _⟩ ?_
  refine x_if_eq (tgt := 30) dX8_chamber_17 (by decide) ⟨by split <;> omega, by split <;> omega⟩ (fun hb17 => ?_) (fun h => (h (by omega)).elim)
  refine x_iload_n dX8_chamber_30 rfl ?_
  refine x_switch (tgt := 91) dX8_chamber_31 ⟨by omega, by omega⟩ (by decide) (by decide) ?_
  refine x_aload_n dX8_chamber_91 rfl ?_
  refine x_iload_n dX8_chamber_92 rfl ?_
  refine x_iload_n dX8_chamber_93 rfl ?_
  refine x_bipush dX8_chamber_94 (by decide) ?_
  refine x_isub dX8_chamber_96 ?_
  refine c_RX8_159d dX8_chamber_97 rfl (kX8_sillHeight hM0 hr0 h.1 (by omega) (by omega)) (by assumption) (Nat.le_of_ble_eq_true rfl) (Nat.le_of_ble_eq_true rfl) ⟨Nat.le_refl _, Nat.le_refl _⟩ ?_
  exact x_ireturn dX8_chamber_100 rfl rfl ⟨Nat.le_refl _, Nat.le_refl _⟩ ⟨rfl, rfl, rfl⟩
theorem kX8_chamber_10 {G : JG} {S : JS} {D : JD} {d : Nat} {M t : Int} {r : Int → Int} {k : Int} (hM : jMo S M) (hr : D (M + 1) = r) (hI : rIn t r) (ht : t ≤ 60000) (h : 0 ≤ k ∧ k < r 1) : JM G yX8_chamber cX8_chamber 3 (some .int) (d + 6) (0, 0) S D [.inr (.inr (some M)), .inl k, .inl 10] (jr (.inl (sHg r k 1)) S D) := by
  have hM0 := hM
  obtain ⟨mk, m0, m1, m2, m4, m5, m8, m12, y1, l1, y2, l2, y3, l3, y4, l4, y5, l5, y6, l6, y7, l7⟩ := id hM
  have hr0 := hr
  have b1 := hI.1
  show JX _ _ _ _ _ _ _ _ _ _ _ [_, _, _] _ _
  refine x_aload_n dX8_chamber_0 rfl ?_
  refine x_iload_n dX8_chamber_1 rfl ?_
  refine c_RX8_56d dX8_chamber_2 rfl (kX8_noChamber hM0 hr0 ⟨by omega, by omega⟩ (by omega)) (by assumption) (Nat.le_of_ble_eq_true rfl) (Nat.le_of_ble_eq_true rfl) ⟨Nat.le_refl _, Nat.le_refl _⟩ ?_
  refine x_if_eq (tgt := 11) dX8_chamber_5 (by decide) ⟨by split <;> omega, by split <;> omega⟩ (fun hb5 => ?_) (fun h => (h (by omega)).elim)
  refine x_iload_n dX8_chamber_11 rfl ?_
  refine x_iconst dX8_chamber_12 ?_
  refine x_iconst dX8_chamber_13 ?_
  refine c_RX8_49d dX8_chamber_14 rfl (kX8_in ⟨by omega, by omega⟩ ⟨by omega, by omega⟩ ⟨by omega, by omega⟩) (Nat.le_of_ble_eq_true rfl) (Nat.le_of_ble_eq_true rfl) ⟨Nat.le_refl _, Nat.le_refl _⟩ ?_
  refine x_if_eq (tgt := 30) dX8_chamber_17 (by decide) ⟨by split <;> omega, by split <;> omega⟩ (fun hb17 => ?_) (fun h => (h (by omega)).elim)
  refine x_iload_n dX8_chamber_30 rfl ?_
  refine x_switch (tgt := 91) dX8_chamber_31 ⟨by omega, by omega⟩ (by decide) (by decide) ?_
  refine x_aload_n dX8_chamber_91 rfl ?_
  refine x_iload_n dX8_chamber_92 rfl ?_
  refine x_iload_n dX8_chamber_93 rfl ?_
  refine x_bipush dX8_chamber_94 (by decide) ?_
  refine x_isub dX8_chamber_96 ?_
  refine c_RX8_159d dX8_chamber_97 rfl (kX8_sillHeight hM0 hr0 h.1 (by omega) (by omega)) (by assumption) (Nat.le_of_ble_eq_true rfl) (Nat.le_of_ble_eq_true rfl) ⟨Nat.le_refl _, Nat.le_refl _⟩ ?_
  exact x_ireturn dX8_chamber_100 rfl rfl ⟨Nat.le_refl _, Nat.le_refl _⟩ ⟨rfl, rfl, rfl⟩
theorem kX8_chamber_11 {G : JG} {S : JS} {D : JD} {d : Nat} {M t : Int} {r : Int → Int} {k : Int} (hM : jMo S M) (hr : D (M + 1) = r) (hI : rIn t r) (ht : t ≤ 60000) (h : 0 ≤ k ∧ k < r 1) : JM G yX8_chamber cX8_chamber 3 (some .int) (d + 6) (0, 0) S D [.inr (.inr (some M)), .inl k, .inl 11] (jr (.inl (r (30 + 11 * k))) S D) := by
  have hM0 := hM
  obtain ⟨mk, m0, m1, m2, m4, m5, m8, m12, y1, l1, y2, l2, y3, l3, y4, l4, y5, l5, y6, l6, y7, l7⟩ := id hM
  have hr0 := hr
  have b1 := hI.1
  show JX _ _ _ _ _ _ _ _ _ _ _ [_, _, _] _ _
  refine x_aload_n dX8_chamber_0 rfl ?_
  refine x_iload_n dX8_chamber_1 rfl ?_
  refine c_RX8_56d dX8_chamber_2 rfl (kX8_noChamber hM0 hr0 ⟨by omega, by omega⟩ (by omega)) (by assumption) (Nat.le_of_ble_eq_true rfl) (Nat.le_of_ble_eq_true rfl) ⟨Nat.le_refl _, Nat.le_refl _⟩ ?_
  refine x_if_eq (tgt := 11) dX8_chamber_5 (by decide) ⟨by split <;> omega, by split <;> omega⟩ (fun hb5 => ?_) (fun h => (h (by omega)).elim)
  refine x_iload_n dX8_chamber_11 rfl ?_
  refine x_iconst dX8_chamber_12 ?_
  refine x_iconst dX8_chamber_13 ?_
  refine c_RX8_49d dX8_chamber_14 rfl (kX8_in ⟨by omega, by omega⟩ ⟨by omega, by omega⟩ ⟨by omega, by omega⟩) (Nat.le_of_ble_eq_true rfl) (Nat.le_of_ble_eq_true rfl) ⟨Nat.le_refl _, Nat.le_refl _⟩ ?_
  refine x_if_eq (tgt := 30) dX8_chamber_17 (by decide) ⟨by split <;> omega, by split <;> omega⟩ (fun hb17 => ?_) (fun h => (h (by omega)).elim)
  refine x_iload_n dX8_chamber_30 rfl ?_
  refine x_switch (tgt := 101) dX8_chamber_31 ⟨by omega, by omega⟩ (by decide) (by decide) ?_
  refine x_aload_n dX8_chamber_101 rfl ?_
  refine x_iload_n dX8_chamber_102 rfl ?_
  refine x_bipush dX8_chamber_103 (by decide) ?_
  refine x_iload_n dX8_chamber_105 rfl ?_
  refine x_iadd dX8_chamber_106 ?_
  refine x_bipush dX8_chamber_107 (by decide) ?_
  refine x_isub dX8_chamber_109 ?_
  refine c_RX8_89d dX8_chamber_110 rfl (kX8_chamberOf hM0 hr0 (by omega) (by omega)) (by assumption) (Nat.le_of_ble_eq_true rfl) (Nat.le_of_ble_eq_true rfl) ⟨Nat.le_refl _, Nat.le_refl _⟩ ?_
  rw [show 21 + 11 * k + (9 + 11 - 11) = 30 + 11 * k by omega]
  exact x_ireturn dX8_chamber_113 rfl rfl ⟨Nat.le_refl _, Nat.le_refl _⟩ ⟨rfl, rfl, rfl⟩
theorem kX8_chamber_12 {G : JG} {S : JS} {D : JD} {d : Nat} {M t : Int} {r : Int → Int} {k : Int} (hM : jMo S M) (hr : D (M + 1) = r) (hI : rIn t r) (ht : t ≤ 60000) (h : 0 ≤ k ∧ k < r 1) : JM G yX8_chamber cX8_chamber 3 (some .int) (d + 6) (0, 0) S D [.inr (.inr (some M)), .inl k, .inl 12] (jr (.inl (r (31 + 11 * k))) S D) := by
  have hM0 := hM
  obtain ⟨mk, m0, m1, m2, m4, m5, m8, m12, y1, l1, y2, l2, y3, l3, y4, l4, y5, l5, y6, l6, y7, l7⟩ := id hM
  have hr0 := hr
  have b1 := hI.1
  show JX _ _ _ _ _ _ _ _ _ _ _ [_, _, _] _ _
  refine x_aload_n dX8_chamber_0 rfl ?_
  refine x_iload_n dX8_chamber_1 rfl ?_
  refine c_RX8_56d dX8_chamber_2 rfl (kX8_noChamber hM0 hr0 ⟨by omega, by omega⟩ (by omega)) (by assumption) (Nat.le_of_ble_eq_true rfl) (Nat.le_of_ble_eq_true rfl) ⟨Nat.le_refl _, Nat.le_refl _⟩ ?_
  refine x_if_eq (tgt := 11) dX8_chamber_5 (by decide) ⟨by split <;> omega, by split <;> omega⟩ (fun hb5 => ?_) (fun h => (h (by omega)).elim)
  refine x_iload_n dX8_chamber_11 rfl ?_
  refine x_iconst dX8_chamber_12 ?_
  refine x_iconst dX8_chamber_13 ?_
  refine c_RX8_49d dX8_chamber_14 rfl (kX8_in ⟨by omega, by omega⟩ ⟨by omega, by omega⟩ ⟨by omega, by omega⟩) (Nat.le_of_ble_eq_true rfl) (Nat.le_of_ble_eq_true rfl) ⟨Nat.le_refl _, Nat.le_refl _⟩ ?_
  refine x_if_eq (tgt := 30) dX8_chamber_17 (by decide) ⟨by split <;> omega, by split <;> omega⟩ (fun hb17 => ?_) (fun h => (h (by omega)).elim)
  refine x_iload_n dX8_chamber_30 rfl ?_
  refine x_switch (tgt := 101) dX8_chamber_31 ⟨by omega, by omega⟩ (by decide) (by decide) ?_
  refine x_aload_n dX8_chamber_101 rfl ?_
  refine x_iload_n dX8_chamber_102 rfl ?_
  refine x_bipush dX8_chamber_103 (by decide) ?_
  refine x_iload_n dX8_chamber_105 rfl ?_
  refine x_iadd dX8_chamber_106 ?_
  refine x_bipush dX8_chamber_107 (by decide) ?_
  refine x_isub dX8_chamber_109 ?_
  refine c_RX8_89d dX8_chamber_110 rfl (kX8_chamberOf hM0 hr0 (by omega) (by omega)) (by assumption) (Nat.le_of_ble_eq_true rfl) (Nat.le_of_ble_eq_true rfl) ⟨Nat.le_refl _, Nat.le_refl _⟩ ?_
  rw [show 21 + 11 * k + (9 + 12 - 11) = 31 + 11 * k by omega]
  exact x_ireturn dX8_chamber_113 rfl rfl ⟨Nat.le_refl _, Nat.le_refl _⟩ ⟨rfl, rfl, rfl⟩
theorem kX8_chamber_n {G : JG} {S : JS} {D : JD} {d : Nat} {M t : Int} {r : Int → Int} {k e : Int} (hM : jMo S M) (hr : D (M + 1) = r) (hI : rIn t r) (ht : t ≤ 60000) (h : 0 ≤ k ∧ k < r 1) (re : i32 e) (he : e < 0 ∨ 12 < e) : JM G yX8_chamber cX8_chamber 3 (some .int) (d + 6) (0, 0) S D [.inr (.inr (some M)), .inl k, .inl e] (jr (.inl (-100000002)) S D) := by
  have hM0 := hM
  obtain ⟨mk, m0, m1, m2, m4, m5, m8, m12, y1, l1, y2, l2, y3, l3, y4, l4, y5, l5, y6, l6, y7, l7⟩ := id hM
  have hr0 := hr
  have b1 := hI.1
  show JX _ _ _ _ _ _ _ _ _ _ _ [_, _, _] _ _
  refine x_aload_n dX8_chamber_0 rfl ?_
  refine x_iload_n dX8_chamber_1 rfl ?_
  refine c_RX8_56d dX8_chamber_2 rfl (kX8_noChamber hM0 hr0 ⟨by omega, by omega⟩ (by omega)) (by assumption) (Nat.le_of_ble_eq_true rfl) (Nat.le_of_ble_eq_true rfl) ⟨Nat.le_refl _, Nat.le_refl _⟩ ?_
  refine x_if_eq (tgt := 11) dX8_chamber_5 (by decide) ⟨by split <;> omega, by split <;> omega⟩ (fun hb5 => ?_) (fun h => (h (by omega)).elim)
  refine x_iload_n dX8_chamber_11 rfl ?_
  refine x_iconst dX8_chamber_12 ?_
  refine x_iconst dX8_chamber_13 ?_
  refine c_RX8_49d dX8_chamber_14 rfl (kX8_in re ⟨by omega, by omega⟩ ⟨by omega, by omega⟩) (Nat.le_of_ble_eq_true rfl) (Nat.le_of_ble_eq_true rfl) ⟨Nat.le_refl _, Nat.le_refl _⟩ ?_
  refine x_if_eq (tgt := 30) dX8_chamber_17 (by decide) ⟨by split <;> omega, by split <;> omega⟩ (fun hb17 => ?_) (fun h => (h (by omega)).elim)
  refine x_iload_n dX8_chamber_30 rfl ?_
  refine x_switch (tgt := 114) dX8_chamber_31 re (by rw [if_pos (by omega)]; rfl) (by decide) ?_
  refine x_ldc (e := -100000002) dX8_chamber_114 ct_RX8_104 (by decide) ?_
  exact x_ireturn dX8_chamber_116 rfl rfl ⟨Nat.le_refl _, Nat.le_refl _⟩ ⟨rfl, rfl, rfl⟩
theorem kX8_chamber {G : JG} {S : JS} {D : JD} {d : Nat} {M t : Int} {r : Int → Int}  {k e : Int} (hM : jMo S M) (hr : D (M + 1) = r) (hI : rIn t r) (ht : t ≤ 60000) (rk : i32 k) (re : i32 e) : JM G yX8_chamber cX8_chamber 3 (some .int) (d + 6) (0, 0) S D [.inr (.inr (some M)), .inl k, .inl e] (jr (.inl (zChamber k e r)) S D) := by
  unfold zChamber
  by_cases h : 0 ≤ k ∧ k < r 1
  · rw [if_pos h]
    unfold tCh
    by_cases h6 : e = 6
    · rw [if_pos h6, h6]; exact kX8_chamber_6 hM hr hI ht h
    rw [if_neg h6]
    by_cases h7 : e = 7
    · rw [if_pos h7, h7]; exact kX8_chamber_7 hM hr hI ht h
    rw [if_neg h7]
    by_cases h8 : e = 8
    · rw [if_pos h8, h8]; exact kX8_chamber_8 hM hr hI ht h
    rw [if_neg h8]
    by_cases h9 : e = 9
    · rw [if_pos h9, h9]; exact kX8_chamber_9 hM hr hI ht h
    rw [if_neg h9]
    by_cases h10 : e = 10
    · rw [if_pos h10, h10]; exact kX8_chamber_10 hM hr hI ht h
    rw [if_neg h10]
    by_cases h11 : e = 11
    · rw [if_pos h11, h11]; exact kX8_chamber_11 hM hr hI ht h
    rw [if_neg h11]
    by_cases h12 : e = 12
    · rw [if_pos h12, h12]; exact kX8_chamber_12 hM hr hI ht h
    rw [if_neg h12]
    by_cases he : 0 ≤ e ∧ e ≤ 5
    · exact kX8_chamber_w hM hr hI ht h re he
    · rw [tWat_no he]; exact kX8_chamber_n hM hr hI ht h re (by omega)
  · rw [if_neg h]; exact kX8_chamber_u hM hr hI ht rk h
theorem kX8_lying_u {G : JG} {S : JS} {D : JD} {d : Nat} {M t : Int} {r : Int → Int} {k e : Int} (hM : jMo S M) (hr : D (M + 1) = r) (hI : rIn t r) (ht : t ≤ 60000) (rk : i32 k) (h : ¬ (0 ≤ k ∧ k < r 1)) : JM G yX8_lying cX8_lying 3 (some .int) (d + 2) (0, 0) S D [.inr (.inr (some M)), .inl k, .inl e] (jr (.inl (-100000001)) S D) := by
  have hM0 := hM
  obtain ⟨mk, m0, m1, m2, m4, m5, m8, m12, y1, l1, y2, l2, y3, l3, y4, l4, y5, l5, y6, l6, y7, l7⟩ := id hM
  have hr0 := hr
  have b1 := hI.1
  show JX _ _ _ _ _ _ _ _ _ _ _ [_, _, _] _ _
  refine x_aload_n dX8_lying_0 rfl ?_
  refine x_iload_n dX8_lying_1 rfl ?_
  refine c_RX8_56d dX8_lying_2 rfl (kX8_noChamber hM0 hr0 rk (by omega)) (by assumption) (Nat.le_of_ble_eq_true rfl) (Nat.le_of_ble_eq_true rfl) ⟨Nat.le_refl _, Nat.le_refl _⟩ ?_
  refine x_if_eq (tgt := 11) dX8_lying_5 (by decide) ⟨by split <;> omega, by split <;> omega⟩ (fun h => absurd h (by omega)) (fun hb5 => ?_)
  refine x_ldc (e := -100000001) dX8_lying_8 ct_RX8_41 (by decide) ?_
  exact x_ireturn dX8_lying_10 rfl rfl ⟨Nat.le_refl _, Nat.le_refl _⟩ ⟨rfl, rfl, rfl⟩
theorem kX8_lying_b {G : JG} {S : JS} {D : JD} {d : Nat} {M t : Int} {r : Int → Int} {k e : Int} (hM : jMo S M) (hr : D (M + 1) = r) (hI : rIn t r) (ht : t ≤ 60000) (h : 0 ≤ k ∧ k < r 1) (re : i32 e) (he : e < 0) : JM G yX8_lying cX8_lying 3 (some .int) (d + 2) (0, 0) S D [.inr (.inr (some M)), .inl k, .inl e] (jr (.inl (-100000002)) S D) := by
  have hM0 := hM
  obtain ⟨mk, m0, m1, m2, m4, m5, m8, m12, y1, l1, y2, l2, y3, l3, y4, l4, y5, l5, y6, l6, y7, l7⟩ := id hM
  have hr0 := hr
  have b1 := hI.1
  have hln := hI.line h.1 h.2
  show JX _ _ _ _ _ _ _ _ _ _ _ [_, _, _] _ _
  refine x_aload_n dX8_lying_0 rfl ?_
  refine x_iload_n dX8_lying_1 rfl ?_
  refine c_RX8_56d dX8_lying_2 rfl (kX8_noChamber hM0 hr0 ⟨by omega, by omega⟩ (by omega)) (by assumption) (Nat.le_of_ble_eq_true rfl) (Nat.le_of_ble_eq_true rfl) ⟨Nat.le_refl _, Nat.le_refl _⟩ ?_
  refine x_if_eq (tgt := 11) dX8_lying_5 (by decide) ⟨by split <;> omega, by split <;> omega⟩ (fun hb5 => ?_) (fun h => (h (by omega)).elim)
  refine x_iload_n dX8_lying_11 rfl ?_
  refine x_if_ge (tgt := 18) dX8_lying_12 (by decide) ⟨by omega, by omega⟩ (fun h => absurd h (by omega)) (fun hb12 => ?_)
  refine x_ldc (e := -100000002) dX8_lying_15 ct_RX8_104 (by decide) ?_
  exact x_ireturn dX8_lying_17 rfl rfl ⟨Nat.le_refl _, Nat.le_refl _⟩ ⟨rfl, rfl, rfl⟩
theorem kX8_lying_n {G : JG} {S : JS} {D : JD} {d : Nat} {M t : Int} {r : Int → Int} {k e : Int} (hM : jMo S M) (hr : D (M + 1) = r) (hI : rIn t r) (ht : t ≤ 60000) (h : 0 ≤ k ∧ k < r 1) (re : i32 e) (he : ¬ e < 0) (hn : ¬ e < r (161 + 13 * k)) : JM G yX8_lying cX8_lying 3 (some .int) (d + 2) (0, 0) S D [.inr (.inr (some M)), .inl k, .inl e] (jr (.inl (-100000005)) S D) := by
  have hM0 := hM
  obtain ⟨mk, m0, m1, m2, m4, m5, m8, m12, y1, l1, y2, l2, y3, l3, y4, l4, y5, l5, y6, l6, y7, l7⟩ := id hM
  have hr0 := hr
  have b1 := hI.1
  have hln := hI.line h.1 h.2
  show JX _ _ _ _ _ _ _ _ _ _ _ [_, _, _] _ _
  refine x_aload_n dX8_lying_0 rfl ?_
  refine x_iload_n dX8_lying_1 rfl ?_
  refine c_RX8_56d dX8_lying_2 rfl (kX8_noChamber hM0 hr0 ⟨by omega, by omega⟩ (by omega)) (by assumption) (Nat.le_of_ble_eq_true rfl) (Nat.le_of_ble_eq_true rfl) ⟨Nat.le_refl _, Nat.le_refl _⟩ ?_
  refine x_if_eq (tgt := 11) dX8_lying_5 (by decide) ⟨by split <;> omega, by split <;> omega⟩ (fun hb5 => ?_) (fun h => (h (by omega)).elim)
  refine x_iload_n dX8_lying_11 rfl ?_
  refine x_if_ge (tgt := 18) dX8_lying_12 (by decide) ⟨by omega, by omega⟩ (fun hb12 => ?_) (fun h => (h (by omega)).elim)
  refine x_iload_n dX8_lying_18 rfl ?_
  refine x_aload_n dX8_lying_19 rfl ?_
  refine gf_RX8_7 dX8_lying_20 rfl (by assumption) ?_
  rw [m0]
  refine x_sipush dX8_lying_23 (by decide) ?_
  refine x_bipush dX8_lying_26 (by decide) ?_
  refine x_iload_n dX8_lying_28 rfl ?_
  refine x_imul dX8_lying_29 ?_
  refine x_iadd dX8_lying_30 ?_
  refine x_iald dX8_lying_31 (by assumption) ⟨by omega, by omega⟩ ?_
  rw [hr]
  refine x_ic_ge (tgt := 55) dX8_lying_32 (by decide) ⟨by omega, by omega⟩ ⟨by omega, by omega⟩ (fun hb32 => ?_) (fun h => (h (by omega)).elim)
  refine x_ldc (e := -100000005) dX8_lying_55 ct_RX8_48 (by decide) ?_
  exact x_ireturn dX8_lying_57 rfl rfl ⟨Nat.le_refl _, Nat.le_refl _⟩ ⟨rfl, rfl, rfl⟩
theorem kX8_lying_y {G : JG} {S : JS} {D : JD} {d : Nat} {M t : Int} {r : Int → Int} {k e : Int} (hM : jMo S M) (hr : D (M + 1) = r) (hI : rIn t r) (ht : t ≤ 60000) (h : 0 ≤ k ∧ k < r 1) (re : i32 e) (he : ¬ e < 0) (hn : e < r (161 + 13 * k)) : JM G yX8_lying cX8_lying 3 (some .int) (d + 2) (0, 0) S D [.inr (.inr (some M)), .inl k, .inl e] (jr (.inl (r (162 + 13 * k + e))) S D) := by
  have hM0 := hM
  obtain ⟨mk, m0, m1, m2, m4, m5, m8, m12, y1, l1, y2, l2, y3, l3, y4, l4, y5, l5, y6, l6, y7, l7⟩ := id hM
  have hr0 := hr
  have b1 := hI.1
  have hln := hI.line h.1 h.2
  show JX _ _ _ _ _ _ _ _ _ _ _ [_, _, _] _ _
  refine x_aload_n dX8_lying_0 rfl ?_
  refine x_iload_n dX8_lying_1 rfl ?_
  refine c_RX8_56d dX8_lying_2 rfl (kX8_noChamber hM0 hr0 ⟨by omega, by omega⟩ (by omega)) (by assumption) (Nat.le_of_ble_eq_true rfl) (Nat.le_of_ble_eq_true rfl) ⟨Nat.le_refl _, Nat.le_refl _⟩ ?_
  refine x_if_eq (tgt := 11) dX8_lying_5 (by decide) ⟨by split <;> omega, by split <;> omega⟩ (fun hb5 => ?_) (fun h => (h (by omega)).elim)
  refine x_iload_n dX8_lying_11 rfl ?_
  refine x_if_ge (tgt := 18) dX8_lying_12 (by decide) ⟨by omega, by omega⟩ (fun hb12 => ?_) (fun h => (h (by omega)).elim)
  refine x_iload_n dX8_lying_18 rfl ?_
  refine x_aload_n dX8_lying_19 rfl ?_
  refine gf_RX8_7 dX8_lying_20 rfl (by assumption) ?_
  rw [m0]
  refine x_sipush dX8_lying_23 (by decide) ?_
  refine x_bipush dX8_lying_26 (by decide) ?_
  refine x_iload_n dX8_lying_28 rfl ?_
  refine x_imul dX8_lying_29 ?_
  refine x_iadd dX8_lying_30 ?_
  refine x_iald dX8_lying_31 (by assumption) ⟨by omega, by omega⟩ ?_
  rw [hr]
  refine x_ic_ge (tgt := 55) dX8_lying_32 (by decide) ⟨by omega, by omega⟩ ⟨by omega, by omega⟩ (fun h => absurd h (by omega)) (fun hb32 => ?_)
  refine x_aload_n dX8_lying_35 rfl ?_
  refine gf_RX8_7 dX8_lying_36 rfl (by assumption) ?_
  rw [m0]
  refine x_sipush dX8_lying_39 (by decide) ?_
  refine x_bipush dX8_lying_42 (by decide) ?_
  refine x_iload_n dX8_lying_44 rfl ?_
  refine x_imul dX8_lying_45 ?_
  refine x_iadd dX8_lying_46 ?_
  refine x_iconst dX8_lying_47 ?_
  refine x_iadd dX8_lying_48 ?_
  refine x_iload_n dX8_lying_49 rfl ?_
  refine x_iadd dX8_lying_50 ?_
  rw [show 161 + 13 * k + 1 + e = 162 + 13 * k + e by omega]
  refine x_iald dX8_lying_51 (by assumption) ⟨by omega, by omega⟩ ?_
  rw [hr]
  refine x_goto (tgt := 57) dX8_lying_52 (by decide) ?_
  exact x_ireturn dX8_lying_57 rfl rfl ⟨Nat.le_refl _, Nat.le_refl _⟩ ⟨rfl, rfl, rfl⟩
theorem kX8_lying {G : JG} {S : JS} {D : JD} {d : Nat} {M t : Int} {r : Int → Int}  {k e : Int} (hM : jMo S M) (hr : D (M + 1) = r) (hI : rIn t r) (ht : t ≤ 60000) (rk : i32 k) (re : i32 e) : JM G yX8_lying cX8_lying 3 (some .int) (d + 2) (0, 0) S D [.inr (.inr (some M)), .inl k, .inl e] (jr (.inl (zLying k e r)) S D) := by
  unfold zLying
  by_cases h : 0 ≤ k ∧ k < r 1
  · rw [if_pos h]
    by_cases he : e < 0
    · rw [if_pos he]; exact kX8_lying_b hM hr hI ht h re he
    · rw [if_neg he]
      by_cases hn : e < r (161 + 13 * k)
      · rw [if_pos hn]; exact kX8_lying_y hM hr hI ht h re he hn
      · rw [if_neg hn]; exact kX8_lying_n hM hr hI ht h re he hn
  · rw [if_neg h]; exact kX8_lying_u hM hr hI ht rk h
theorem kX8_barge_u {G : JG} {S : JS} {D : JD} {d : Nat} {M t : Int} {r : Int → Int} {k e : Int} (hM : jMo S M) (hr : D (M + 1) = r) (hI : rIn t r) (ht : t ≤ 60000) (rk : i32 k) (h : ¬ (0 ≤ k ∧ k < r 2)) : JM G yX8_barge cX8_barge 3 (some .int) (d + 5) (0, 0) S D [.inr (.inr (some M)), .inl k, .inl e] (jr (.inl (-100000001)) S D) := by
  have hM0 := hM
  obtain ⟨mk, m0, m1, m2, m4, m5, m8, m12, y1, l1, y2, l2, y3, l3, y4, l4, y5, l5, y6, l6, y7, l7⟩ := id hM
  have hr0 := hr
  have b1 := hI.1
  show JX _ _ _ _ _ _ _ _ _ _ _ [_, _, _] _ _
  refine x_aload_n dX8_barge_0 rfl ?_
  refine x_iload_n dX8_barge_1 rfl ?_
  refine c_RX8_132d dX8_barge_2 rfl (kX8_noBarge hM0 hr0 rk (by omega)) (by assumption) (Nat.le_of_ble_eq_true rfl) (Nat.le_of_ble_eq_true rfl) ⟨Nat.le_refl _, Nat.le_refl _⟩ ?_
  refine x_if_eq (tgt := 11) dX8_barge_5 (by decide) ⟨by split <;> omega, by split <;> omega⟩ (fun h => absurd h (by omega)) (fun hb5 => ?_)
  refine x_ldc (e := -100000001) dX8_barge_8 ct_RX8_41 (by decide) ?_
  exact x_ireturn dX8_barge_10 rfl rfl ⟨Nat.le_refl _, Nat.le_refl _⟩ ⟨rfl, rfl, rfl⟩
theorem kX8_barge_0 {G : JG} {S : JS} {D : JD} {d : Nat} {M t : Int} {r : Int → Int} {k : Int} (hM : jMo S M) (hr : D (M + 1) = r) (hI : rIn t r) (ht : t ≤ 60000) (h : 0 ≤ k ∧ k < r 2) : JM G yX8_barge cX8_barge 3 (some .int) (d + 5) (0, 0) S D [.inr (.inr (some M)), .inl k, .inl 0] (jr (.inl (r (65 + 8 * k))) S D) := by
  have hM0 := hM
  obtain ⟨mk, m0, m1, m2, m4, m5, m8, m12, y1, l1, y2, l2, y3, l3, y4, l4, y5, l5, y6, l6, y7, l7⟩ := id hM
  have hr0 := hr
  have b1 := hI.1
  show JX _ _ _ _ _ _ _ _ _ _ _ [_, _, _] _ _
  refine x_aload_n dX8_barge_0 rfl ?_
  refine x_iload_n dX8_barge_1 rfl ?_
  refine c_RX8_132d dX8_barge_2 rfl (kX8_noBarge hM0 hr0 ⟨by omega, by omega⟩ (by omega)) (by assumption) (Nat.le_of_ble_eq_true rfl) (Nat.le_of_ble_eq_true rfl) ⟨Nat.le_refl _, Nat.le_refl _⟩ ?_
  refine x_if_eq (tgt := 11) dX8_barge_5 (by decide) ⟨by split <;> omega, by split <;> omega⟩ (fun hb5 => ?_) (fun h => (h (by omega)).elim)
  refine x_iload_n dX8_barge_11 rfl ?_
  refine x_switch (tgt := 64) dX8_barge_12 ⟨by omega, by omega⟩ (by decide) (by decide) ?_
  refine x_aload_n dX8_barge_64 rfl ?_
  refine x_iload_n dX8_barge_65 rfl ?_
  refine x_iconst dX8_barge_66 ?_
  refine c_RX8_60d dX8_barge_67 rfl (kX8_of hM0 hr0 (by omega) (by omega)) (by assumption) (Nat.le_of_ble_eq_true rfl) (Nat.le_of_ble_eq_true rfl) ⟨Nat.le_refl _, Nat.le_refl _⟩ ?_
  rw [show 65 + 8 * k + 0 = 65 + 8 * k by omega]
  exact x_ireturn dX8_barge_70 rfl rfl ⟨Nat.le_refl _, Nat.le_refl _⟩ ⟨rfl, rfl, rfl⟩
theorem kX8_barge_1 {G : JG} {S : JS} {D : JD} {d : Nat} {M t : Int} {r : Int → Int} {k : Int} (hM : jMo S M) (hr : D (M + 1) = r) (hI : rIn t r) (ht : t ≤ 60000) (h : 0 ≤ k ∧ k < r 2) : JM G yX8_barge cX8_barge 3 (some .int) (d + 5) (0, 0) S D [.inr (.inr (some M)), .inl k, .inl 1] (jr (.inl (sW r k)) S D) := by
  have hM0 := hM
  obtain ⟨mk, m0, m1, m2, m4, m5, m8, m12, y1, l1, y2, l2, y3, l3, y4, l4, y5, l5, y6, l6, y7, l7⟩ := id hM
  have hr0 := hr
  have b1 := hI.1
  show JX _ _ _ _ _ _ _ _ _ _ _ [_, _, _] _ _
  refine x_aload_n dX8_barge_0 rfl ?_
  refine x_iload_n dX8_barge_1 rfl ?_
  refine c_RX8_132d dX8_barge_2 rfl (kX8_noBarge hM0 hr0 ⟨by omega, by omega⟩ (by omega)) (by assumption) (Nat.le_of_ble_eq_true rfl) (Nat.le_of_ble_eq_true rfl) ⟨Nat.le_refl _, Nat.le_refl _⟩ ?_
  refine x_if_eq (tgt := 11) dX8_barge_5 (by decide) ⟨by split <;> omega, by split <;> omega⟩ (fun hb5 => ?_) (fun h => (h (by omega)).elim)
  refine x_iload_n dX8_barge_11 rfl ?_
  refine x_switch (tgt := 71) dX8_barge_12 ⟨by omega, by omega⟩ (by decide) (by decide) ?_
  refine x_aload_n dX8_barge_71 rfl ?_
  refine x_iload_n dX8_barge_72 rfl ?_
  refine c_RX8_64d dX8_barge_73 rfl (kX8_weight hM0 hr0 h.1 (by omega)) (by assumption) (Nat.le_of_ble_eq_true rfl) (Nat.le_of_ble_eq_true rfl) ⟨Nat.le_refl _, Nat.le_refl _⟩ ?_
  exact x_ireturn dX8_barge_76 rfl rfl ⟨Nat.le_refl _, Nat.le_refl _⟩ ⟨rfl, rfl, rfl⟩
theorem kX8_barge_2 {G : JG} {S : JS} {D : JD} {d : Nat} {M t : Int} {r : Int → Int} {k : Int} (hM : jMo S M) (hr : D (M + 1) = r) (hI : rIn t r) (ht : t ≤ 60000) (h : 0 ≤ k ∧ k < r 2) : JM G yX8_barge cX8_barge 3 (some .int) (d + 5) (0, 0) S D [.inr (.inr (some M)), .inl k, .inl 2] (jr (.inl (sDr r k)) S D) := by
  have hM0 := hM
  obtain ⟨mk, m0, m1, m2, m4, m5, m8, m12, y1, l1, y2, l2, y3, l3, y4, l4, y5, l5, y6, l6, y7, l7⟩ := id hM
  have hr0 := hr
  have b1 := hI.1
  show JX _ _ _ _ _ _ _ _ _ _ _ [_, _, _] _ _
  refine x_aload_n dX8_barge_0 rfl ?_
  refine x_iload_n dX8_barge_1 rfl ?_
  refine c_RX8_132d dX8_barge_2 rfl (kX8_noBarge hM0 hr0 ⟨by omega, by omega⟩ (by omega)) (by assumption) (Nat.le_of_ble_eq_true rfl) (Nat.le_of_ble_eq_true rfl) ⟨Nat.le_refl _, Nat.le_refl _⟩ ?_
  refine x_if_eq (tgt := 11) dX8_barge_5 (by decide) ⟨by split <;> omega, by split <;> omega⟩ (fun hb5 => ?_) (fun h => (h (by omega)).elim)
  refine x_iload_n dX8_barge_11 rfl ?_
  refine x_switch (tgt := 77) dX8_barge_12 ⟨by omega, by omega⟩ (by decide) (by decide) ?_
  refine x_aload_n dX8_barge_77 rfl ?_
  refine x_iload_n dX8_barge_78 rfl ?_
  refine c_RX8_79d dX8_barge_79 rfl (kX8_draught hM0 hr0 hI ht h.1 h.2) (by assumption) (Nat.le_of_ble_eq_true rfl) (Nat.le_of_ble_eq_true rfl) ⟨Nat.le_refl _, Nat.le_refl _⟩ ?_
  exact x_ireturn dX8_barge_82 rfl rfl ⟨Nat.le_refl _, Nat.le_refl _⟩ ⟨rfl, rfl, rfl⟩
theorem kX8_barge_3 {G : JG} {S : JS} {D : JD} {d : Nat} {M t : Int} {r : Int → Int} {k : Int} (hM : jMo S M) (hr : D (M + 1) = r) (hI : rIn t r) (ht : t ≤ 60000) (h : 0 ≤ k ∧ k < r 2) : JM G yX8_barge cX8_barge 3 (some .int) (d + 5) (0, 0) S D [.inr (.inr (some M)), .inl k, .inl 3] (jr (.inl (r (69 + 8 * k))) S D) := by
  have hM0 := hM
  obtain ⟨mk, m0, m1, m2, m4, m5, m8, m12, y1, l1, y2, l2, y3, l3, y4, l4, y5, l5, y6, l6, y7, l7⟩ := id hM
  have hr0 := hr
  have b1 := hI.1
  show JX _ _ _ _ _ _ _ _ _ _ _ [_, _, _] _ _
  refine x_aload_n dX8_barge_0 rfl ?_
  refine x_iload_n dX8_barge_1 rfl ?_
  refine c_RX8_132d dX8_barge_2 rfl (kX8_noBarge hM0 hr0 ⟨by omega, by omega⟩ (by omega)) (by assumption) (Nat.le_of_ble_eq_true rfl) (Nat.le_of_ble_eq_true rfl) ⟨Nat.le_refl _, Nat.le_refl _⟩ ?_
  refine x_if_eq (tgt := 11) dX8_barge_5 (by decide) ⟨by split <;> omega, by split <;> omega⟩ (fun hb5 => ?_) (fun h => (h (by omega)).elim)
  refine x_iload_n dX8_barge_11 rfl ?_
  refine x_switch (tgt := 83) dX8_barge_12 ⟨by omega, by omega⟩ (by decide) (by decide) ?_
  refine x_aload_n dX8_barge_83 rfl ?_
  refine x_iload_n dX8_barge_84 rfl ?_
  refine x_iconst dX8_barge_85 ?_
  refine c_RX8_60d dX8_barge_86 rfl (kX8_of hM0 hr0 (by omega) (by omega)) (by assumption) (Nat.le_of_ble_eq_true rfl) (Nat.le_of_ble_eq_true rfl) ⟨Nat.le_refl _, Nat.le_refl _⟩ ?_
  rw [show 65 + 8 * k + 4 = 69 + 8 * k by omega]
  exact x_ireturn dX8_barge_89 rfl rfl ⟨Nat.le_refl _, Nat.le_refl _⟩ ⟨rfl, rfl, rfl⟩
theorem kX8_barge_4 {G : JG} {S : JS} {D : JD} {d : Nat} {M t : Int} {r : Int → Int} {k : Int} (hM : jMo S M) (hr : D (M + 1) = r) (hI : rIn t r) (ht : t ≤ 60000) (h : 0 ≤ k ∧ k < r 2) : JM G yX8_barge cX8_barge 3 (some .int) (d + 5) (0, 0) S D [.inr (.inr (some M)), .inl k, .inl 4] (jr (.inl (r (70 + 8 * k))) S D) := by
  have hM0 := hM
  obtain ⟨mk, m0, m1, m2, m4, m5, m8, m12, y1, l1, y2, l2, y3, l3, y4, l4, y5, l5, y6, l6, y7, l7⟩ := id hM
  have hr0 := hr
  have b1 := hI.1
  show JX _ _ _ _ _ _ _ _ _ _ _ [_, _, _] _ _
  refine x_aload_n dX8_barge_0 rfl ?_
  refine x_iload_n dX8_barge_1 rfl ?_
  refine c_RX8_132d dX8_barge_2 rfl (kX8_noBarge hM0 hr0 ⟨by omega, by omega⟩ (by omega)) (by assumption) (Nat.le_of_ble_eq_true rfl) (Nat.le_of_ble_eq_true rfl) ⟨Nat.le_refl _, Nat.le_refl _⟩ ?_
  refine x_if_eq (tgt := 11) dX8_barge_5 (by decide) ⟨by split <;> omega, by split <;> omega⟩ (fun hb5 => ?_) (fun h => (h (by omega)).elim)
  refine x_iload_n dX8_barge_11 rfl ?_
  refine x_switch (tgt := 90) dX8_barge_12 ⟨by omega, by omega⟩ (by decide) (by decide) ?_
  refine x_aload_n dX8_barge_90 rfl ?_
  refine x_iload_n dX8_barge_91 rfl ?_
  refine x_iconst dX8_barge_92 ?_
  refine c_RX8_60d dX8_barge_93 rfl (kX8_of hM0 hr0 (by omega) (by omega)) (by assumption) (Nat.le_of_ble_eq_true rfl) (Nat.le_of_ble_eq_true rfl) ⟨Nat.le_refl _, Nat.le_refl _⟩ ?_
  rw [show 65 + 8 * k + 5 = 70 + 8 * k by omega]
  exact x_ireturn dX8_barge_96 rfl rfl ⟨Nat.le_refl _, Nat.le_refl _⟩ ⟨rfl, rfl, rfl⟩
theorem kX8_barge_5 {G : JG} {S : JS} {D : JD} {d : Nat} {M t : Int} {r : Int → Int} {k : Int} (hM : jMo S M) (hr : D (M + 1) = r) (hI : rIn t r) (ht : t ≤ 60000) (h : 0 ≤ k ∧ k < r 2) : JM G yX8_barge cX8_barge 3 (some .int) (d + 5) (0, 0) S D [.inr (.inr (some M)), .inl k, .inl 5] (jr (.inl (r (68 + 8 * k) - r (69 + 8 * k) - r (70 + 8 * k))) S D) := by
  have hM0 := hM
  obtain ⟨mk, m0, m1, m2, m4, m5, m8, m12, y1, l1, y2, l2, y3, l3, y4, l4, y5, l5, y6, l6, y7, l7⟩ := id hM
  have hr0 := hr
  have b1 := hI.1
  show JX _ _ _ _ _ _ _ _ _ _ _ [_, _, _] _ _
  refine x_aload_n dX8_barge_0 rfl ?_
  refine x_iload_n dX8_barge_1 rfl ?_
  refine c_RX8_132d dX8_barge_2 rfl (kX8_noBarge hM0 hr0 ⟨by omega, by omega⟩ (by omega)) (by assumption) (Nat.le_of_ble_eq_true rfl) (Nat.le_of_ble_eq_true rfl) ⟨Nat.le_refl _, Nat.le_refl _⟩ ?_
  refine x_if_eq (tgt := 11) dX8_barge_5 (by decide) ⟨by split <;> omega, by split <;> omega⟩ (fun hb5 => ?_) (fun h => (h (by omega)).elim)
  refine x_iload_n dX8_barge_11 rfl ?_
  refine x_switch (tgt := 97) dX8_barge_12 ⟨by omega, by omega⟩ (by decide) (by decide) ?_
  refine x_aload_n dX8_barge_97 rfl ?_
  refine x_iload_n dX8_barge_98 rfl ?_
  refine c_RX8_138d dX8_barge_99 rfl (kX8_room hM0 hr0 h.1 (by omega)) (by assumption) (Nat.le_of_ble_eq_true rfl) (Nat.le_of_ble_eq_true rfl) ⟨Nat.le_refl _, Nat.le_refl _⟩ ?_
  exact x_ireturn dX8_barge_102 rfl rfl ⟨Nat.le_refl _, Nat.le_refl _⟩ ⟨rfl, rfl, rfl⟩
theorem kX8_barge_6 {G : JG} {S : JS} {D : JD} {d : Nat} {M t : Int} {r : Int → Int} {k : Int} (hM : jMo S M) (hr : D (M + 1) = r) (hI : rIn t r) (ht : t ≤ 60000) (h : 0 ≤ k ∧ k < r 2) : JM G yX8_barge cX8_barge 3 (some .int) (d + 5) (0, 0) S D [.inr (.inr (some M)), .inl k, .inl 6] (jr (.inl (if sDp r (r (71 + 8 * k)) < sDr r k then 1 else 0)) S D) := by
  have hM0 := hM
  obtain ⟨mk, m0, m1, m2, m4, m5, m8, m12, y1, l1, y2, l2, y3, l3, y4, l4, y5, l5, y6, l6, y7, l7⟩ := id hM
  have hr0 := hr
  have b1 := hI.1
  show JX _ _ _ _ _ _ _ _ _ _ _ [_, _, _] _ _
  refine x_aload_n dX8_barge_0 rfl ?_
  refine x_iload_n dX8_barge_1 rfl ?_
  refine c_RX8_132d dX8_barge_2 rfl (kX8_noBarge hM0 hr0 ⟨by omega, by omega⟩ (by omega)) (by assumption) (Nat.le_of_ble_eq_true rfl) (Nat.le_of_ble_eq_true rfl) ⟨Nat.le_refl _, Nat.le_refl _⟩ ?_
  refine x_if_eq (tgt := 11) dX8_barge_5 (by decide) ⟨by split <;> omega, by split <;> omega⟩ (fun hb5 => ?_) (fun h => (h (by omega)).elim)
  refine x_iload_n dX8_barge_11 rfl ?_
  refine x_switch (tgt := 103) dX8_barge_12 ⟨by omega, by omega⟩ (by decide) (by decide) ?_
  refine x_aload_n dX8_barge_103 rfl ?_
  refine x_iload_n dX8_barge_104 rfl ?_
  refine c_RX8_162d dX8_barge_105 rfl (kX8_isAground hM0 hr0 hI ht h.1 h.2) (by assumption) (Nat.le_of_ble_eq_true rfl) (Nat.le_of_ble_eq_true rfl) ⟨Nat.le_refl _, Nat.le_refl _⟩ ?_
  refine x_if_eq (tgt := 115) dX8_barge_108 (by decide) ⟨by split <;> omega, by split <;> omega⟩ (fun hb108 => ?_) (fun hb108 => ?_)
  · refine x_iconst dX8_barge_115 ?_
    exact x_ireturn dX8_barge_116 rfl rfl ⟨Nat.le_refl _, Nat.le_refl _⟩ ⟨by first | rw [if_pos (by omega)] | rw [if_neg (by omega)], rfl, rfl⟩
  · refine x_iconst dX8_barge_111 ?_
    refine x_goto (tgt := 116) dX8_barge_112 (by decide) ?_
    exact x_ireturn dX8_barge_116 rfl rfl ⟨Nat.le_refl _, Nat.le_refl _⟩ ⟨by first | rw [if_pos (by omega)] | rw [if_neg (by omega)], rfl, rfl⟩
theorem kX8_barge_7 {G : JG} {S : JS} {D : JD} {d : Nat} {M t : Int} {r : Int → Int} {k : Int} (hM : jMo S M) (hr : D (M + 1) = r) (hI : rIn t r) (ht : t ≤ 60000) (h : 0 ≤ k ∧ k < r 2) : JM G yX8_barge cX8_barge 3 (some .int) (d + 5) (0, 0) S D [.inr (.inr (some M)), .inl k, .inl 7] (jr (.inl (r (71 + 8 * k))) S D) := by
  have hM0 := hM
  obtain ⟨mk, m0, m1, m2, m4, m5, m8, m12, y1, l1, y2, l2, y3, l3, y4, l4, y5, l5, y6, l6, y7, l7⟩ := id hM
  have hr0 := hr
  have b1 := hI.1
  show JX _ _ _ _ _ _ _ _ _ _ _ [_, _, _] _ _
  refine x_aload_n dX8_barge_0 rfl ?_
  refine x_iload_n dX8_barge_1 rfl ?_
  refine c_RX8_132d dX8_barge_2 rfl (kX8_noBarge hM0 hr0 ⟨by omega, by omega⟩ (by omega)) (by assumption) (Nat.le_of_ble_eq_true rfl) (Nat.le_of_ble_eq_true rfl) ⟨Nat.le_refl _, Nat.le_refl _⟩ ?_
  refine x_if_eq (tgt := 11) dX8_barge_5 (by decide) ⟨by split <;> omega, by split <;> omega⟩ (fun hb5 => ?_) (fun h => (h (by omega)).elim)
  refine x_iload_n dX8_barge_11 rfl ?_
  refine x_switch (tgt := 117) dX8_barge_12 ⟨by omega, by omega⟩ (by decide) (by decide) ?_
  refine x_aload_n dX8_barge_117 rfl ?_
  refine x_iload_n dX8_barge_118 rfl ?_
  refine x_bipush dX8_barge_119 (by decide) ?_
  refine c_RX8_60d dX8_barge_121 rfl (kX8_of hM0 hr0 (by omega) (by omega)) (by assumption) (Nat.le_of_ble_eq_true rfl) (Nat.le_of_ble_eq_true rfl) ⟨Nat.le_refl _, Nat.le_refl _⟩ ?_
  rw [show 65 + 8 * k + 6 = 71 + 8 * k by omega]
  exact x_ireturn dX8_barge_124 rfl rfl ⟨Nat.le_refl _, Nat.le_refl _⟩ ⟨rfl, rfl, rfl⟩
theorem kX8_barge_8 {G : JG} {S : JS} {D : JD} {d : Nat} {M t : Int} {r : Int → Int} {k : Int} (hM : jMo S M) (hr : D (M + 1) = r) (hI : rIn t r) (ht : t ≤ 60000) (h : 0 ≤ k ∧ k < r 2) : JM G yX8_barge cX8_barge 3 (some .int) (d + 5) (0, 0) S D [.inr (.inr (some M)), .inl k, .inl 8] (jr (.inl (r (72 + 8 * k))) S D) := by
  have hM0 := hM
  obtain ⟨mk, m0, m1, m2, m4, m5, m8, m12, y1, l1, y2, l2, y3, l3, y4, l4, y5, l5, y6, l6, y7, l7⟩ := id hM
  have hr0 := hr
  have b1 := hI.1
  show JX _ _ _ _ _ _ _ _ _ _ _ [_, _, _] _ _
  refine x_aload_n dX8_barge_0 rfl ?_
  refine x_iload_n dX8_barge_1 rfl ?_
  refine c_RX8_132d dX8_barge_2 rfl (kX8_noBarge hM0 hr0 ⟨by omega, by omega⟩ (by omega)) (by assumption) (Nat.le_of_ble_eq_true rfl) (Nat.le_of_ble_eq_true rfl) ⟨Nat.le_refl _, Nat.le_refl _⟩ ?_
  refine x_if_eq (tgt := 11) dX8_barge_5 (by decide) ⟨by split <;> omega, by split <;> omega⟩ (fun hb5 => ?_) (fun h => (h (by omega)).elim)
  refine x_iload_n dX8_barge_11 rfl ?_
  refine x_switch (tgt := 125) dX8_barge_12 ⟨by omega, by omega⟩ (by decide) (by decide) ?_
  refine x_aload_n dX8_barge_125 rfl ?_
  refine x_iload_n dX8_barge_126 rfl ?_
  refine x_bipush dX8_barge_127 (by decide) ?_
  refine c_RX8_60d dX8_barge_129 rfl (kX8_of hM0 hr0 (by omega) (by omega)) (by assumption) (Nat.le_of_ble_eq_true rfl) (Nat.le_of_ble_eq_true rfl) ⟨Nat.le_refl _, Nat.le_refl _⟩ ?_
  rw [show 65 + 8 * k + 7 = 72 + 8 * k by omega]
  exact x_ireturn dX8_barge_132 rfl rfl ⟨Nat.le_refl _, Nat.le_refl _⟩ ⟨rfl, rfl, rfl⟩
theorem kX8_barge_n {G : JG} {S : JS} {D : JD} {d : Nat} {M t : Int} {r : Int → Int} {k e : Int} (hM : jMo S M) (hr : D (M + 1) = r) (hI : rIn t r) (ht : t ≤ 60000) (h : 0 ≤ k ∧ k < r 2) (re : i32 e) (he : e < 0 ∨ 8 < e) : JM G yX8_barge cX8_barge 3 (some .int) (d + 5) (0, 0) S D [.inr (.inr (some M)), .inl k, .inl e] (jr (.inl (-100000002)) S D) := by
  have hM0 := hM
  obtain ⟨mk, m0, m1, m2, m4, m5, m8, m12, y1, l1, y2, l2, y3, l3, y4, l4, y5, l5, y6, l6, y7, l7⟩ := id hM
  have hr0 := hr
  have b1 := hI.1
  show JX _ _ _ _ _ _ _ _ _ _ _ [_, _, _] _ _
  refine x_aload_n dX8_barge_0 rfl ?_
  refine x_iload_n dX8_barge_1 rfl ?_
  refine c_RX8_132d dX8_barge_2 rfl (kX8_noBarge hM0 hr0 ⟨by omega, by omega⟩ (by omega)) (by assumption) (Nat.le_of_ble_eq_true rfl) (Nat.le_of_ble_eq_true rfl) ⟨Nat.le_refl _, Nat.le_refl _⟩ ?_
  refine x_if_eq (tgt := 11) dX8_barge_5 (by decide) ⟨by split <;> omega, by split <;> omega⟩ (fun hb5 => ?_) (fun h => (h (by omega)).elim)
  refine x_iload_n dX8_barge_11 rfl ?_
  refine x_switch (tgt := 133) dX8_barge_12 re (by rw [if_pos (by omega)]; rfl) (by decide) ?_
  refine x_ldc (e := -100000002) dX8_barge_133 ct_RX8_104 (by decide) ?_
  exact x_ireturn dX8_barge_135 rfl rfl ⟨Nat.le_refl _, Nat.le_refl _⟩ ⟨rfl, rfl, rfl⟩
theorem kX8_barge {G : JG} {S : JS} {D : JD} {d : Nat} {M t : Int} {r : Int → Int}  {k e : Int} (hM : jMo S M) (hr : D (M + 1) = r) (hI : rIn t r) (ht : t ≤ 60000) (rk : i32 k) (re : i32 e) : JM G yX8_barge cX8_barge 3 (some .int) (d + 5) (0, 0) S D [.inr (.inr (some M)), .inl k, .inl e] (jr (.inl (zBarge k e r)) S D) := by
  unfold zBarge
  by_cases h : 0 ≤ k ∧ k < r 2
  · rw [if_pos h]
    unfold tBar
    by_cases h0 : e = 0
    · rw [if_pos h0, h0]; exact kX8_barge_0 hM hr hI ht h
    rw [if_neg h0]
    by_cases h1 : e = 1
    · rw [if_pos h1, h1]; exact kX8_barge_1 hM hr hI ht h
    rw [if_neg h1]
    by_cases h2 : e = 2
    · rw [if_pos h2, h2]; exact kX8_barge_2 hM hr hI ht h
    rw [if_neg h2]
    by_cases h3 : e = 3
    · rw [if_pos h3, h3]; exact kX8_barge_3 hM hr hI ht h
    rw [if_neg h3]
    by_cases h4 : e = 4
    · rw [if_pos h4, h4]; exact kX8_barge_4 hM hr hI ht h
    rw [if_neg h4]
    by_cases h5 : e = 5
    · rw [if_pos h5, h5]; exact kX8_barge_5 hM hr hI ht h
    rw [if_neg h5]
    by_cases h6 : e = 6
    · rw [if_pos h6, h6]; exact kX8_barge_6 hM hr hI ht h
    rw [if_neg h6]
    by_cases h7 : e = 7
    · rw [if_pos h7, h7]; exact kX8_barge_7 hM hr hI ht h
    rw [if_neg h7]
    by_cases h8 : e = 8
    · rw [if_pos h8, h8]; exact kX8_barge_8 hM hr hI ht h
    rw [if_neg h8]
    exact kX8_barge_n hM hr hI ht h re (by omega)
  · rw [if_neg h]; exact kX8_barge_u hM hr hI ht rk h
theorem kX8_margin_u {G : JG} {S : JS} {D : JD} {d : Nat} {M t : Int} {r : Int → Int} {k c g : Int} (hM : jMo S M) (hr : D (M + 1) = r) (hI : rIn t r) (ht : t ≤ 60000) (rk : i32 k) (rc : i32 c) (rg : i32 g) (h : ¬ ((0 ≤ k ∧ k < r 2) ∧ (0 ≤ c ∧ c < r 1) ∧ (g = 0 ∨ g = 1))) : JM G yX8_margin cX8_margin 6 (some .int) (d + 6) (0, 0) S D [.inr (.inr (some M)), .inl k, .inl c, .inl g] (jr (.inl (-100000001)) S D) := by
  have hM0 := hM
  obtain ⟨mk, m0, m1, m2, m4, m5, m8, m12, y1, l1, y2, l2, y3, l3, y4, l4, y5, l5, y6, l6, y7, l7⟩ := id hM
  have hr0 := hr
  have b1 := hI.1
  show JX _ _ _ _ _ _ _ _ _ _ _ [_, _, _, _, _, _] _ _
  refine x_aload_n dX8_margin_0 rfl ?_
  refine x_iload_n dX8_margin_1 rfl ?_
  refine c_RX8_132d dX8_margin_2 rfl (kX8_noBarge hM0 hr0 rk (by omega)) (by assumption) (Nat.le_of_ble_eq_true rfl) (Nat.le_of_ble_eq_true rfl) ⟨Nat.le_refl _, Nat.le_refl _⟩ ?_
  refine x_if_ne (tgt := 17) dX8_margin_5 (by decide) ⟨by split <;> omega, by split <;> omega⟩ (fun hb5 => ?_) (fun hb5 => ?_)
  · refine x_ldc (e := -100000001) dX8_margin_17 ct_RX8_41 (by decide) ?_
    exact x_ireturn dX8_margin_19 rfl rfl ⟨Nat.le_refl _, Nat.le_refl _⟩ ⟨rfl, rfl, rfl⟩
  · refine x_aload_n dX8_margin_8 rfl ?_
    refine x_iload_n dX8_margin_9 rfl ?_
    refine x_iload_n dX8_margin_10 rfl ?_
    refine c_RX8_113d dX8_margin_11 rfl (kX8_noGate hM0 hr0 rc rg (by omega)) (by assumption) (Nat.le_of_ble_eq_true rfl) (Nat.le_of_ble_eq_true rfl) ⟨Nat.le_refl _, Nat.le_refl _⟩ ?_
    refine x_if_eq (tgt := 20) dX8_margin_14 (by decide) ⟨by split <;> omega, by split <;> omega⟩ (fun hz => (h ⟨by omega, Classical.byContradiction (fun q => by rw [if_neg (fun w => q ⟨w.1, w.2⟩)] at hz; exact absurd hz (by decide))⟩).elim) (fun hb14 => ?_)
    refine x_ldc (e := -100000001) dX8_margin_17 ct_RX8_41 (by decide) ?_
    exact x_ireturn dX8_margin_19 rfl rfl ⟨Nat.le_refl _, Nat.le_refl _⟩ ⟨rfl, rfl, rfl⟩
theorem tMost_deep {t : Int} {r : Int → Int} {k c g : Int} (hI : rIn t r) (k0 : 0 ≤ k) (k1 : k < r 2) : tMost r k c g < sW r k ↔ gDeep r k c g := by
  obtain ⟨bp, w0, w1, i0, i1, d0, d1⟩ := hI.bw k0 k1
  unfold gDeep sDr
  show (sLv r (100 + c) - sHg r c g - r 3) * r (67 + 8 * k) < sW r k ↔ _
  generalize sLv r (100 + c) - sHg r c g - r 3 = x
  generalize r (67 + 8 * k) = m at *
  generalize sW r k = w at *
  have e := Int.mul_ediv_add_emod (w + m - 1) m
  have l1 := Int.emod_nonneg (w + m - 1) (show m ≠ 0 by omega)
  have l2 := Int.emod_lt_of_pos (w + m - 1) (show 0 < m by omega)
  generalize (w + m - 1) / m = q at *
  constructor
  · intro h
    rcases Int.lt_or_le x q with z | z
    · exact z
    · have := Int.mul_le_mul_of_nonneg_right z (show 0 ≤ m by omega)
      have c1 : m * q = q * m := Int.mul_comm _ _
      omega
  · intro h
    have h2 : x + 1 ≤ q := h
    have := Int.mul_le_mul_of_nonneg_right h2 (show 0 ≤ m by omega)
    have c1 : m * q = q * m := Int.mul_comm _ _
    have c2 : (x + 1) * m = x * m + m := by rw [Int.add_mul, Int.one_mul]
    omega
theorem kX8_margin_n {G : JG} {S : JS} {D : JD} {d : Nat} {M t : Int} {r : Int → Int} {k c g : Int} (hM : jMo S M) (hr : D (M + 1) = r) (hI : rIn t r) (ht : t ≤ 60000) (k0 : 0 ≤ k) (k1 : k < r 2) (c0 : 0 ≤ c) (c1 : c < r 1) (hg : g = 0 ∨ g = 1) (hm : tMost r k c g < sW r k) : JM G yX8_margin cX8_margin 6 (some .int) (d + 6) (0, 0) S D [.inr (.inr (some M)), .inl k, .inl c, .inl g] (jr (.inl (-100000005)) S D) := by
  have hM0 := hM
  obtain ⟨mk, m0, m1, m2, m4, m5, m8, m12, y1, l1, y2, l2, y3, l3, y4, l4, y5, l5, y6, l6, y7, l7⟩ := id hM
  have hr0 := hr
  have b1 := hI.1
  obtain ⟨bp, w0, w1, i0, i1, d0, d1⟩ := hI.bw k0 k1
  have bo := hI.2.2.2.1 k k0 k1
  unfold rBo at bo
  have hp : rPl r (100 + c) := Or.inr ⟨by omega, by omega⟩
  obtain ⟨wo, wm, a0, a1, p0, p1⟩ := hI.wat ht hp
  have dp := hI.dp wo wm
  have hh := sHg_r hI c0 c1 hg
  have eq0 := tMost_deep (c := c) (g := g) hI k0 k1
  show JX _ _ _ _ _ _ _ _ _ _ _ [_, _, _, _, _, _] _ _
  refine x_aload_n dX8_margin_0 rfl ?_
  refine x_iload_n dX8_margin_1 rfl ?_
  refine c_RX8_132d dX8_margin_2 rfl (kX8_noBarge hM0 hr0 ⟨by omega, by omega⟩ (by omega)) (by assumption) (Nat.le_of_ble_eq_true rfl) (Nat.le_of_ble_eq_true rfl) ⟨Nat.le_refl _, Nat.le_refl _⟩ ?_
  refine x_if_ne (tgt := 17) dX8_margin_5 (by decide) ⟨by split <;> omega, by split <;> omega⟩ (fun h => absurd h (by omega)) (fun hb5 => ?_)
  refine x_aload_n dX8_margin_8 rfl ?_
  refine x_iload_n dX8_margin_9 rfl ?_
  refine x_iload_n dX8_margin_10 rfl ?_
  refine c_RX8_113d dX8_margin_11 rfl (kX8_noGate hM0 hr0 ⟨by omega, by omega⟩ ⟨by omega, by omega⟩ (by omega)) (by assumption) (Nat.le_of_ble_eq_true rfl) (Nat.le_of_ble_eq_true rfl) ⟨Nat.le_refl _, Nat.le_refl _⟩ ?_
  refine x_if_eq (tgt := 20) dX8_margin_14 (by decide) ⟨by split <;> omega, by split <;> omega⟩ (fun hb14 => ?_) (fun hz => (hz (by rw [if_pos ⟨⟨c0, c1⟩, hg⟩])).elim)
  refine x_aload_n dX8_margin_20 rfl ?_
  refine x_iload_n dX8_margin_21 rfl ?_
  refine x_iload_n dX8_margin_22 rfl ?_
  refine x_iload_n dX8_margin_23 rfl ?_
  refine c_RX8_168d dX8_margin_24 rfl (kX8_canPass hM0 hr0 hI ht k0 k1 c0 c1 hg) (by assumption) (Nat.le_of_ble_eq_true rfl) (Nat.le_of_ble_eq_true rfl) ⟨Nat.le_refl _, Nat.le_refl _⟩ ?_
  refine x_if_ne (tgt := 33) dX8_margin_27 (by decide) ⟨by split <;> omega, by split <;> omega⟩ (fun hz => (hz (if_pos (eq0.mp hm))).elim) (fun hb27 => ?_)
  refine x_ldc (e := -100000005) dX8_margin_30 ct_RX8_48 (by decide) ?_
  exact x_ireturn dX8_margin_32 rfl rfl ⟨Nat.le_refl _, Nat.le_refl _⟩ ⟨rfl, rfl, rfl⟩
theorem kX8_margin_y {G : JG} {S : JS} {D : JD} {d : Nat} {M t : Int} {r : Int → Int} {k c g : Int} (hM : jMo S M) (hr : D (M + 1) = r) (hI : rIn t r) (ht : t ≤ 60000) (k0 : 0 ≤ k) (k1 : k < r 2) (c0 : 0 ≤ c) (c1 : c < r 1) (hg : g = 0 ∨ g = 1) (hm : ¬ tMost r k c g < sW r k) : JM G yX8_margin cX8_margin 6 (some .int) (d + 6) (0, 0) S D [.inr (.inr (some M)), .inl k, .inl c, .inl g] (jr (.inl (min (tMost r k c g - sW r k) (r (68 + 8 * k) - r (69 + 8 * k) - r (70 + 8 * k)))) S D) := by
  have hM0 := hM
  obtain ⟨mk, m0, m1, m2, m4, m5, m8, m12, y1, l1, y2, l2, y3, l3, y4, l4, y5, l5, y6, l6, y7, l7⟩ := id hM
  have hr0 := hr
  have b1 := hI.1
  obtain ⟨bp, w0, w1, i0, i1, d0, d1⟩ := hI.bw k0 k1
  have bo := hI.2.2.2.1 k k0 k1
  unfold rBo at bo
  have hp : rPl r (100 + c) := Or.inr ⟨by omega, by omega⟩
  obtain ⟨wo, wm, a0, a1, p0, p1⟩ := hI.wat ht hp
  have dp := hI.dp wo wm
  have hh := sHg_r hI c0 c1 hg
  have eq0 := tMost_deep (c := c) (g := g) hI k0 k1
  have cm : r (67 + 8 * k) * (sLv r (100 + c) - sHg r c g - r 3) = tMost r k c g := Int.mul_comm _ _
  have bm := mul_bnd (a := r (67 + 8 * k)) (x := sLv r (100 + c) - sHg r c g - r 3) (A := 20) (X := 1000000000) (by omega) (by omega) (by omega) (by omega)
  rw [cm] at bm
  show JX _ _ _ _ _ _ _ _ _ _ _ [_, _, _, _, _, _] _ _
  refine x_aload_n dX8_margin_0 rfl ?_
  refine x_iload_n dX8_margin_1 rfl ?_
  refine c_RX8_132d dX8_margin_2 rfl (kX8_noBarge hM0 hr0 ⟨by omega, by omega⟩ (by omega)) (by assumption) (Nat.le_of_ble_eq_true rfl) (Nat.le_of_ble_eq_true rfl) ⟨Nat.le_refl _, Nat.le_refl _⟩ ?_
  refine x_if_ne (tgt := 17) dX8_margin_5 (by decide) ⟨by split <;> omega, by split <;> omega⟩ (fun h => absurd h (by omega)) (fun hb5 => ?_)
  refine x_aload_n dX8_margin_8 rfl ?_
  refine x_iload_n dX8_margin_9 rfl ?_
  refine x_iload_n dX8_margin_10 rfl ?_
  refine c_RX8_113d dX8_margin_11 rfl (kX8_noGate hM0 hr0 ⟨by omega, by omega⟩ ⟨by omega, by omega⟩ (by omega)) (by assumption) (Nat.le_of_ble_eq_true rfl) (Nat.le_of_ble_eq_true rfl) ⟨Nat.le_refl _, Nat.le_refl _⟩ ?_
  refine x_if_eq (tgt := 20) dX8_margin_14 (by decide) ⟨by split <;> omega, by split <;> omega⟩ (fun hb14 => ?_) (fun hz => (hz (by rw [if_pos ⟨⟨c0, c1⟩, hg⟩])).elim)
  refine x_aload_n dX8_margin_20 rfl ?_
  refine x_iload_n dX8_margin_21 rfl ?_
  refine x_iload_n dX8_margin_22 rfl ?_
  refine x_iload_n dX8_margin_23 rfl ?_
  refine c_RX8_168d dX8_margin_24 rfl (kX8_canPass hM0 hr0 hI ht k0 k1 c0 c1 hg) (by assumption) (Nat.le_of_ble_eq_true rfl) (Nat.le_of_ble_eq_true rfl) ⟨Nat.le_refl _, Nat.le_refl _⟩ ?_
  refine x_if_ne (tgt := 33) dX8_margin_27 (by decide) ⟨by split <;> omega, by split <;> omega⟩ (fun hb27 => ?_) (fun hz => hz (by rw [if_neg (fun q => hm (eq0.mpr q))]; decide) |>.elim)
  refine x_aload_n dX8_margin_33 rfl ?_
  refine x_iload_n dX8_margin_34 rfl ?_
  refine x_iconst dX8_margin_35 ?_
  refine c_RX8_60d dX8_margin_36 rfl (kX8_of hM0 hr0 (by omega) (by omega)) (by assumption) (Nat.le_of_ble_eq_true rfl) (Nat.le_of_ble_eq_true rfl) ⟨Nat.le_refl _, Nat.le_refl _⟩ ?_
  rw [show 65 + 8 * k + 2 = 67 + 8 * k by omega]
  refine x_i2l dX8_margin_39 ⟨by omega, by omega⟩ ?_
  refine x_aload_n dX8_margin_40 rfl ?_
  refine x_bipush dX8_margin_41 (by decide) ?_
  refine x_iload_n dX8_margin_43 rfl ?_
  refine x_iadd dX8_margin_44 ?_
  refine c_RX8_126d dX8_margin_45 rfl (kX8_level hM0 hr0 hI ht hp) (by assumption) (Nat.le_of_ble_eq_true rfl) (Nat.le_of_ble_eq_true rfl) ⟨Nat.le_refl _, Nat.le_refl _⟩ ?_
  refine x_aload_n dX8_margin_48 rfl ?_
  refine x_iload_n dX8_margin_49 rfl ?_
  refine x_iload_n dX8_margin_50 rfl ?_
  refine c_RX8_159d dX8_margin_51 rfl (kX8_sillHeight hM0 hr0 c0 (by omega) hg) (by assumption) (Nat.le_of_ble_eq_true rfl) (Nat.le_of_ble_eq_true rfl) ⟨Nat.le_refl _, Nat.le_refl _⟩ ?_
  refine x_isub dX8_margin_54 ?_
  refine x_aload_n dX8_margin_55 rfl ?_
  refine gf_RX8_7 dX8_margin_56 rfl (by assumption) ?_
  rw [m0]
  refine x_iconst dX8_margin_59 ?_
  refine x_iald dX8_margin_60 (by assumption) ⟨by omega, by omega⟩ ?_
  rw [hr]
  refine x_isub dX8_margin_61 ?_
  refine x_i2l dX8_margin_62 ⟨by omega, by omega⟩ ?_
  refine x_lmul dX8_margin_63 ?_
  rw [cm]
  refine x_aload_n dX8_margin_64 rfl ?_
  refine x_iload_n dX8_margin_65 rfl ?_
  refine c_RX8_64d dX8_margin_66 rfl (kX8_weight hM0 hr0 k0 (by omega)) (by assumption) (Nat.le_of_ble_eq_true rfl) (Nat.le_of_ble_eq_true rfl) ⟨Nat.le_refl _, Nat.le_refl _⟩ ?_
  refine x_i2l dX8_margin_69 ⟨by omega, by omega⟩ ?_
  refine x_lsub dX8_margin_70 ?_
  refine x_lstore dX8_margin_71 (by decide) ?_
  show JX _ _ _ _ _ _ _ _ _ _ _ [_, _, _, _, _, _] _ _
  refine x_lload dX8_margin_73 rfl ?_
  refine x_aload_n dX8_margin_75 rfl ?_
  refine x_iload_n dX8_margin_76 rfl ?_
  refine c_RX8_138d dX8_margin_77 rfl (kX8_room hM0 hr0 k0 (by omega)) (by assumption) (Nat.le_of_ble_eq_true rfl) (Nat.le_of_ble_eq_true rfl) ⟨Nat.le_refl _, Nat.le_refl _⟩ ?_
  refine x_i2l dX8_margin_80 ⟨by omega, by omega⟩ ?_
  refine x_lc_ge (tgt := 91) dX8_margin_81 dX8_margin_82 (by decide) ⟨by omega, by omega⟩ ⟨by omega, by omega⟩ (fun hb82 => ?_) (fun hb82 => ?_)
  · refine x_aload_n dX8_margin_91 rfl ?_
    refine x_iload_n dX8_margin_92 rfl ?_
    refine c_RX8_138d dX8_margin_93 rfl (kX8_room hM0 hr0 k0 (by omega)) (by assumption) (Nat.le_of_ble_eq_true rfl) (Nat.le_of_ble_eq_true rfl) ⟨Nat.le_refl _, Nat.le_refl _⟩ ?_
    exact x_ireturn dX8_margin_96 rfl rfl ⟨Nat.le_refl _, Nat.le_refl _⟩ ⟨by first | rw [Int.min_eq_left (by omega)] | rw [Int.min_eq_right (by omega)], rfl, rfl⟩
  · refine x_lload dX8_margin_85 rfl ?_
    refine x_l2i dX8_margin_87 ?_
    refine x_goto (tgt := 96) dX8_margin_88 (by decide) ?_
    exact x_ireturn dX8_margin_96 rfl rfl ⟨Nat.le_refl _, Nat.le_refl _⟩ ⟨by first | rw [Int.min_eq_left (by omega)] | rw [Int.min_eq_right (by omega)], rfl, rfl⟩
theorem kX8_margin {G : JG} {S : JS} {D : JD} {d : Nat} {M t : Int} {r : Int → Int}  {k c g : Int} (hM : jMo S M) (hr : D (M + 1) = r) (hI : rIn t r) (ht : t ≤ 60000) (rk : i32 k) (rc : i32 c) (rg : i32 g) : JM G yX8_margin cX8_margin 6 (some .int) (d + 6) (0, 0) S D [.inr (.inr (some M)), .inl k, .inl c, .inl g] (jr (.inl (zMargin k c g r)) S D) := by
  unfold zMargin
  by_cases h : (0 ≤ k ∧ k < r 2) ∧ (0 ≤ c ∧ c < r 1) ∧ (g = 0 ∨ g = 1)
  · rw [if_pos h]
    by_cases hm : tMost r k c g < sW r k
    · rw [if_pos hm]; exact kX8_margin_n hM hr hI ht h.1.1 h.1.2 h.2.1.1 h.2.1.2 h.2.2 hm
    · rw [if_neg hm]; exact kX8_margin_y hM hr hI ht h.1.1 h.1.2 h.2.1.1 h.2.1.2 h.2.2 hm
  · rw [if_neg h]; exact kX8_margin_u hM hr hI ht rk rc rg h
theorem kX8_flow_u {G : JG} {S : JS} {D : JD} {d : Nat} {M t : Int} {r : Int → Int} {c g : Int} (hM : jMo S M) (hr : D (M + 1) = r) (hI : rIn t r) (ht : t ≤ 60000) (rc : i32 c) (rg : i32 g) (h : ¬ ((0 ≤ c ∧ c < r 1) ∧ (g = 0 ∨ g = 1))) : JM G yX8_flow cX8_flow 3 (some .int) (d + 4) (0, 0) S D [.inr (.inr (some M)), .inl c, .inl g] (jr (.inl (-100000001)) S D) := by
  have hM0 := hM
  obtain ⟨mk, m0, m1, m2, m4, m5, m8, m12, y1, l1, y2, l2, y3, l3, y4, l4, y5, l5, y6, l6, y7, l7⟩ := id hM
  have hr0 := hr
  have b1 := hI.1
  show JX _ _ _ _ _ _ _ _ _ _ _ [_, _, _] _ _
  refine x_aload_n dX8_flow_0 rfl ?_
  refine x_iload_n dX8_flow_1 rfl ?_
  refine x_iload_n dX8_flow_2 rfl ?_
  refine c_RX8_113d dX8_flow_3 rfl (kX8_noGate hM0 hr0 rc rg (by omega)) (by assumption) (Nat.le_of_ble_eq_true rfl) (Nat.le_of_ble_eq_true rfl) ⟨Nat.le_refl _, Nat.le_refl _⟩ ?_
  refine x_if_eq (tgt := 14) dX8_flow_6 (by decide) ⟨by split <;> omega, by split <;> omega⟩ (fun hz => absurd hz (by rw [if_neg h]; decide)) (fun hb6 => ?_)
  refine x_ldc (e := -100000001) dX8_flow_9 ct_RX8_41 (by decide) ?_
  refine x_goto (tgt := 35) dX8_flow_11 (by decide) ?_
  exact x_ireturn dX8_flow_35 rfl rfl ⟨Nat.le_refl _, Nat.le_refl _⟩ ⟨rfl, rfl, rfl⟩
theorem kX8_flow_y {G : JG} {S : JS} {D : JD} {d : Nat} {M t : Int} {r : Int → Int} {c g : Int} (hM : jMo S M) (hr : D (M + 1) = r) (hI : rIn t r) (ht : t ≤ 60000) (c0 : 0 ≤ c) (c1 : c < r 1) (hg : g = 0 ∨ g = 1) : JM G yX8_flow cX8_flow 3 (some .int) (d + 4) (0, 0) S D [.inr (.inr (some M)), .inl c, .inl g] (jr (.inl (sShd r c g - r (23 + 11 * c))) S D) := by
  have hM0 := hM
  obtain ⟨mk, m0, m1, m2, m4, m5, m8, m12, y1, l1, y2, l2, y3, l3, y4, l4, y5, l5, y6, l6, y7, l7⟩ := id hM
  have hr0 := hr
  have b1 := hI.1
  show JX _ _ _ _ _ _ _ _ _ _ _ [_, _, _] _ _
  refine x_aload_n dX8_flow_0 rfl ?_
  refine x_iload_n dX8_flow_1 rfl ?_
  refine x_iload_n dX8_flow_2 rfl ?_
  refine c_RX8_113d dX8_flow_3 rfl (kX8_noGate hM0 hr0 ⟨by omega, by omega⟩ ⟨by omega, by omega⟩ (by omega)) (by assumption) (Nat.le_of_ble_eq_true rfl) (Nat.le_of_ble_eq_true rfl) ⟨Nat.le_refl _, Nat.le_refl _⟩ ?_
  refine x_if_eq (tgt := 14) dX8_flow_6 (by decide) ⟨by split <;> omega, by split <;> omega⟩ (fun hb6 => ?_) (fun hz => (hz (by rw [if_pos ⟨⟨c0, c1⟩, hg⟩])).elim)
  refine x_aload_n dX8_flow_14 rfl ?_
  refine x_iload_n dX8_flow_15 rfl ?_
  refine x_iload_n dX8_flow_16 rfl ?_
  refine c_RX8_86d dX8_flow_17 rfl (kX8_shared hM0 hr0 hI ht c0 c1 hg) (by assumption) (Nat.le_of_ble_eq_true rfl) (Nat.le_of_ble_eq_true rfl) ⟨Nat.le_refl _, Nat.le_refl _⟩ ?_
  refine x_aload_n dX8_flow_20 rfl ?_
  refine gf_RX8_7 dX8_flow_21 rfl (by assumption) ?_
  rw [m0]
  refine x_bipush dX8_flow_24 (by decide) ?_
  refine x_iload_n dX8_flow_26 rfl ?_
  refine x_iadd dX8_flow_27 ?_
  refine c_RX8_68d dX8_flow_28 rfl (kX8_waterAt ⟨by omega, by omega⟩) (Nat.le_of_ble_eq_true rfl) (Nat.le_of_ble_eq_true rfl) ⟨Nat.le_refl _, Nat.le_refl _⟩ ?_
  rw [wA_c c0]
  refine x_iconst dX8_flow_31 ?_
  refine x_iadd dX8_flow_32 ?_
  rw [show 21 + 11 * c + 2 = 23 + 11 * c by omega]
  refine x_iald dX8_flow_33 (by assumption) ⟨by omega, by omega⟩ ?_
  rw [hr]
  refine x_isub dX8_flow_34 ?_
  exact x_ireturn dX8_flow_35 rfl rfl ⟨Nat.le_refl _, Nat.le_refl _⟩ ⟨rfl, rfl, rfl⟩
theorem kX8_flow {G : JG} {S : JS} {D : JD} {d : Nat} {M t : Int} {r : Int → Int}  {c g : Int} (hM : jMo S M) (hr : D (M + 1) = r) (hI : rIn t r) (ht : t ≤ 60000) (rc : i32 c) (rg : i32 g) : JM G yX8_flow cX8_flow 3 (some .int) (d + 4) (0, 0) S D [.inr (.inr (some M)), .inl c, .inl g] (jr (.inl (zFlow c g r)) S D) := by
  unfold zFlow
  by_cases h : (0 ≤ c ∧ c < r 1) ∧ (g = 0 ∨ g = 1)
  · rw [if_pos h]; exact kX8_flow_y hM hr hI ht h.1.1 h.1.2 h.2
  · rw [if_neg h]; exact kX8_flow_u hM hr hI ht rc rg h
