/-! THE REFERENCE: its row, and its small methods -/
def jMo (S : JS) (M : Int) : Prop := jK S M = 8 ∧ jR S M 0 = some (M + 1) ∧ jR S M 1 = some (M + 2) ∧ jR S M 2 = some (M + 3) ∧ jR S M 4 = some (M + 4) ∧ jR S M 5 = some (M + 5) ∧ jR S M 8 = some (M + 6) ∧ jR S M 12 = some (M + 7) ∧
  jK S (M + 1) = 9 ∧ jL S (M + 1) = 213 ∧ jK S (M + 2) = 9 ∧ jL S (M + 2) = 213 ∧ jK S (M + 3) = 9 ∧ jL S (M + 3) = 1065 ∧ jK S (M + 4) = 9 ∧ jL S (M + 4) = 426 ∧ jK S (M + 5) = 11 ∧ jL S (M + 5) = 2 ∧ jK S (M + 6) = 10 ∧ jL S (M + 6) = 60 ∧ jK S (M + 7) = 9 ∧ jL S (M + 7) = 90
theorem kX8_noReach {G : JG} {S : JS} {D : JD} {d : Nat} {M : Int} {r : Int → Int} {v : Int} (hM : jMo S M) (hr : D (M + 1) = r) (rv : i32 v) (rn : 0 ≤ r 0 ∧ r 0 ≤ 100) : JM G yX8_noReach cX8_noReach 2 (some .boolean) (d + 1) (0, 0) S D [.inr (.inr (some M)), .inl v] (jr (.inl (if 0 ≤ v ∧ v < r 0 then 0 else 1)) S D) := by
  have hM0 := hM
  obtain ⟨mk, m0, m1, m2, m4, m5, m8, m12, y1, l1, y2, l2, y3, l3, y4, l4, y5, l5, y6, l6, y7, l7⟩ := id hM
  have hr0 := hr
  show JX _ _ _ _ _ _ _ _ _ _ _ [_, _] _ _
  refine x_iload_n dX8_noReach_0 rfl ?_
  refine x_iconst dX8_noReach_1 ?_
  refine x_aload_n dX8_noReach_2 rfl ?_
  refine gf_RX8_7 dX8_noReach_3 rfl (by assumption) ?_
  rw [m0]
  refine x_iconst dX8_noReach_6 ?_
  refine x_iald dX8_noReach_7 (by assumption) ⟨by omega, by omega⟩ ?_
  rw [hr]
  refine x_iconst dX8_noReach_8 ?_
  refine x_isub dX8_noReach_9 ?_
  refine c_RX8_49d dX8_noReach_10 rfl (kX8_in rv ⟨by omega, by omega⟩ ⟨by omega, by omega⟩) (Nat.le_of_ble_eq_true rfl) (Nat.le_of_ble_eq_true rfl) ⟨Nat.le_refl _, Nat.le_refl _⟩ ?_
  refine x_if_ne (tgt := 20) dX8_noReach_13 (by decide) ⟨by split <;> omega, by split <;> omega⟩ (fun hb13 => ?_) (fun hb13 => ?_)
  · refine x_iconst dX8_noReach_20 ?_
    exact x_ireturn dX8_noReach_21 rfl (jbool (by first | exact Or.inl rfl | exact Or.inr rfl)).1 ⟨Nat.le_refl _, Nat.le_refl _⟩ ⟨by congr; omega, rfl, rfl⟩
  · refine x_iconst dX8_noReach_16 ?_
    refine x_goto (tgt := 21) dX8_noReach_17 (by decide) ?_
    exact x_ireturn dX8_noReach_21 rfl (jbool (by first | exact Or.inl rfl | exact Or.inr rfl)).1 ⟨Nat.le_refl _, Nat.le_refl _⟩ ⟨by congr; omega, rfl, rfl⟩
theorem kX8_noChamber {G : JG} {S : JS} {D : JD} {d : Nat} {M : Int} {r : Int → Int} {v : Int} (hM : jMo S M) (hr : D (M + 1) = r) (rv : i32 v) (rn : 0 ≤ r 1 ∧ r 1 ≤ 100) : JM G yX8_noChamber cX8_noChamber 2 (some .boolean) (d + 1) (0, 0) S D [.inr (.inr (some M)), .inl v] (jr (.inl (if 0 ≤ v ∧ v < r 1 then 0 else 1)) S D) := by
  have hM0 := hM
  obtain ⟨mk, m0, m1, m2, m4, m5, m8, m12, y1, l1, y2, l2, y3, l3, y4, l4, y5, l5, y6, l6, y7, l7⟩ := id hM
  have hr0 := hr
  show JX _ _ _ _ _ _ _ _ _ _ _ [_, _] _ _
  refine x_iload_n dX8_noChamber_0 rfl ?_
  refine x_iconst dX8_noChamber_1 ?_
  refine x_aload_n dX8_noChamber_2 rfl ?_
  refine gf_RX8_7 dX8_noChamber_3 rfl (by assumption) ?_
  rw [m0]
  refine x_iconst dX8_noChamber_6 ?_
  refine x_iald dX8_noChamber_7 (by assumption) ⟨by omega, by omega⟩ ?_
  rw [hr]
  refine x_iconst dX8_noChamber_8 ?_
  refine x_isub dX8_noChamber_9 ?_
  refine c_RX8_49d dX8_noChamber_10 rfl (kX8_in rv ⟨by omega, by omega⟩ ⟨by omega, by omega⟩) (Nat.le_of_ble_eq_true rfl) (Nat.le_of_ble_eq_true rfl) ⟨Nat.le_refl _, Nat.le_refl _⟩ ?_
  refine x_if_ne (tgt := 20) dX8_noChamber_13 (by decide) ⟨by split <;> omega, by split <;> omega⟩ (fun hb13 => ?_) (fun hb13 => ?_)
  · refine x_iconst dX8_noChamber_20 ?_
    exact x_ireturn dX8_noChamber_21 rfl (jbool (by first | exact Or.inl rfl | exact Or.inr rfl)).1 ⟨Nat.le_refl _, Nat.le_refl _⟩ ⟨by congr; omega, rfl, rfl⟩
  · refine x_iconst dX8_noChamber_16 ?_
    refine x_goto (tgt := 21) dX8_noChamber_17 (by decide) ?_
    exact x_ireturn dX8_noChamber_21 rfl (jbool (by first | exact Or.inl rfl | exact Or.inr rfl)).1 ⟨Nat.le_refl _, Nat.le_refl _⟩ ⟨by congr; omega, rfl, rfl⟩
theorem kX8_noBarge {G : JG} {S : JS} {D : JD} {d : Nat} {M : Int} {r : Int → Int} {v : Int} (hM : jMo S M) (hr : D (M + 1) = r) (rv : i32 v) (rn : 0 ≤ r 2 ∧ r 2 ≤ 100) : JM G yX8_noBarge cX8_noBarge 2 (some .boolean) (d + 1) (0, 0) S D [.inr (.inr (some M)), .inl v] (jr (.inl (if 0 ≤ v ∧ v < r 2 then 0 else 1)) S D) := by
  have hM0 := hM
  obtain ⟨mk, m0, m1, m2, m4, m5, m8, m12, y1, l1, y2, l2, y3, l3, y4, l4, y5, l5, y6, l6, y7, l7⟩ := id hM
  have hr0 := hr
  show JX _ _ _ _ _ _ _ _ _ _ _ [_, _] _ _
  refine x_iload_n dX8_noBarge_0 rfl ?_
  refine x_iconst dX8_noBarge_1 ?_
  refine x_aload_n dX8_noBarge_2 rfl ?_
  refine gf_RX8_7 dX8_noBarge_3 rfl (by assumption) ?_
  rw [m0]
  refine x_iconst dX8_noBarge_6 ?_
  refine x_iald dX8_noBarge_7 (by assumption) ⟨by omega, by omega⟩ ?_
  rw [hr]
  refine x_iconst dX8_noBarge_8 ?_
  refine x_isub dX8_noBarge_9 ?_
  refine c_RX8_49d dX8_noBarge_10 rfl (kX8_in rv ⟨by omega, by omega⟩ ⟨by omega, by omega⟩) (Nat.le_of_ble_eq_true rfl) (Nat.le_of_ble_eq_true rfl) ⟨Nat.le_refl _, Nat.le_refl _⟩ ?_
  refine x_if_ne (tgt := 20) dX8_noBarge_13 (by decide) ⟨by split <;> omega, by split <;> omega⟩ (fun hb13 => ?_) (fun hb13 => ?_)
  · refine x_iconst dX8_noBarge_20 ?_
    exact x_ireturn dX8_noBarge_21 rfl (jbool (by first | exact Or.inl rfl | exact Or.inr rfl)).1 ⟨Nat.le_refl _, Nat.le_refl _⟩ ⟨by congr; omega, rfl, rfl⟩
  · refine x_iconst dX8_noBarge_16 ?_
    refine x_goto (tgt := 21) dX8_noBarge_17 (by decide) ?_
    exact x_ireturn dX8_noBarge_21 rfl (jbool (by first | exact Or.inl rfl | exact Or.inr rfl)).1 ⟨Nat.le_refl _, Nat.le_refl _⟩ ⟨by congr; omega, rfl, rfl⟩
theorem kX8_noGate {G : JG} {S : JS} {D : JD} {d : Nat} {M : Int} {r : Int → Int} {c g : Int} (hM : jMo S M) (hr : D (M + 1) = r) (rc : i32 c) (rg : i32 g) (rn : 0 ≤ r 1 ∧ r 1 ≤ 100) : JM G yX8_noGate cX8_noGate 3 (some .boolean) (d + 2) (0, 0) S D [.inr (.inr (some M)), .inl c, .inl g] (jr (.inl (if (0 ≤ c ∧ c < r 1) ∧ (g = 0 ∨ g = 1) then 0 else 1)) S D) := by
  have hM0 := hM
  obtain ⟨mk, m0, m1, m2, m4, m5, m8, m12, y1, l1, y2, l2, y3, l3, y4, l4, y5, l5, y6, l6, y7, l7⟩ := id hM
  have hr0 := hr
  show JX _ _ _ _ _ _ _ _ _ _ _ [_, _, _] _ _
  refine x_aload_n dX8_noGate_0 rfl ?_
  refine x_iload_n dX8_noGate_1 rfl ?_
  refine c_RX8_56d dX8_noGate_2 rfl (kX8_noChamber hM0 hr0 rc rn) (by assumption) (Nat.le_of_ble_eq_true rfl) (Nat.le_of_ble_eq_true rfl) ⟨Nat.le_refl _, Nat.le_refl _⟩ ?_
  refine x_if_ne (tgt := 17) dX8_noGate_5 (by decide) ⟨by split <;> omega, by split <;> omega⟩ (fun hb5 => ?_) (fun hb5 => ?_)
  · refine x_iconst dX8_noGate_17 ?_
    refine x_goto (tgt := 22) dX8_noGate_18 (by decide) ?_
    exact x_ireturn dX8_noGate_22 rfl (jbool (by first | exact Or.inl rfl | exact Or.inr rfl)).1 ⟨Nat.le_refl _, Nat.le_refl _⟩ ⟨by congr; omega, rfl, rfl⟩
  · refine x_iload_n dX8_noGate_8 rfl ?_
    refine x_iconst dX8_noGate_9 ?_
    refine x_iconst dX8_noGate_10 ?_
    refine c_RX8_49d dX8_noGate_11 rfl (kX8_in rg ⟨by omega, by omega⟩ ⟨by omega, by omega⟩) (Nat.le_of_ble_eq_true rfl) (Nat.le_of_ble_eq_true rfl) ⟨Nat.le_refl _, Nat.le_refl _⟩ ?_
    refine x_if_ne (tgt := 21) dX8_noGate_14 (by decide) ⟨by split <;> omega, by split <;> omega⟩ (fun hb14 => ?_) (fun hb14 => ?_)
    · refine x_iconst dX8_noGate_21 ?_
      exact x_ireturn dX8_noGate_22 rfl (jbool (by first | exact Or.inl rfl | exact Or.inr rfl)).1 ⟨Nat.le_refl _, Nat.le_refl _⟩ ⟨by congr; omega, rfl, rfl⟩
    · refine x_iconst dX8_noGate_17 ?_
      refine x_goto (tgt := 22) dX8_noGate_18 (by decide) ?_
      exact x_ireturn dX8_noGate_22 rfl (jbool (by first | exact Or.inl rfl | exact Or.inr rfl)).1 ⟨Nat.le_refl _, Nat.le_refl _⟩ ⟨by congr; omega, rfl, rfl⟩
theorem kX8_waterAt {G : JG} {S : JS} {D : JD} {d : Nat} {p : Int} (rp : i32 p) : JM G yX8_waterAt cX8_waterAt 1 (some .int) d (0, 0) S D [.inl p] (jr (.inl (wA p)) S D) := by
  show JX _ _ _ _ _ _ _ _ _ _ _ [_] _ _
  refine x_iload_n dX8_waterAt_0 rfl ?_
  refine x_bipush dX8_waterAt_1 (by decide) ?_
  refine x_ic_ge (tgt := 15) dX8_waterAt_3 (by decide) rp ⟨by omega, by omega⟩ (fun hb3 => ?_) (fun hb3 => ?_)
  · refine x_bipush dX8_waterAt_15 (by decide) ?_
    refine x_bipush dX8_waterAt_17 (by decide) ?_
    refine x_iload_n dX8_waterAt_19 rfl ?_
    refine x_bipush dX8_waterAt_20 (by decide) ?_
    refine x_isub dX8_waterAt_22 ?_
    refine x_imul dX8_waterAt_23 ?_
    refine x_iadd dX8_waterAt_24 ?_
    exact x_ireturn dX8_waterAt_25 rfl rfl ⟨Nat.le_refl _, Nat.le_refl _⟩ ⟨by unfold wA; first | rw [if_neg (by omega)] | rw [if_pos (by omega)], rfl, rfl⟩
  · refine x_bipush dX8_waterAt_6 (by decide) ?_
    refine x_iconst dX8_waterAt_8 ?_
    refine x_iload_n dX8_waterAt_9 rfl ?_
    refine x_imul dX8_waterAt_10 ?_
    refine x_iadd dX8_waterAt_11 ?_
    refine x_goto (tgt := 25) dX8_waterAt_12 (by decide) ?_
    exact x_ireturn dX8_waterAt_25 rfl rfl ⟨Nat.le_refl _, Nat.le_refl _⟩ ⟨by unfold wA; first | rw [if_neg (by omega)] | rw [if_pos (by omega)], rfl, rfl⟩
theorem kX8_of {G : JG} {S : JS} {D : JD} {d : Nat} {M : Int} {r : Int → Int} {k z : Int} (hM : jMo S M) (hr : D (M + 1) = r) (h0 : 0 ≤ 65 + 8 * k + z) (h1 : 65 + 8 * k + z < 213) : JM G yX8_of cX8_of 3 (some .int) d (0, 0) S D [.inr (.inr (some M)), .inl k, .inl z] (jr (.inl (r (65 + 8 * k + z))) S D) := by
  have hM0 := hM
  obtain ⟨mk, m0, m1, m2, m4, m5, m8, m12, y1, l1, y2, l2, y3, l3, y4, l4, y5, l5, y6, l6, y7, l7⟩ := id hM
  have hr0 := hr
  show JX _ _ _ _ _ _ _ _ _ _ _ [_, _, _] _ _
  refine x_aload_n dX8_of_0 rfl ?_
  refine gf_RX8_7 dX8_of_1 rfl (by assumption) ?_
  rw [m0]
  refine x_bipush dX8_of_4 (by decide) ?_
  refine x_bipush dX8_of_6 (by decide) ?_
  refine x_iload_n dX8_of_8 rfl ?_
  refine x_imul dX8_of_9 ?_
  refine x_iadd dX8_of_10 ?_
  refine x_iload_n dX8_of_11 rfl ?_
  refine x_iadd dX8_of_12 ?_
  refine x_iald dX8_of_13 (by assumption) ⟨by omega, by omega⟩ ?_
  rw [hr]
  exact x_ireturn dX8_of_14 rfl rfl ⟨Nat.le_refl _, Nat.le_refl _⟩ ⟨rfl, rfl, rfl⟩
theorem kX8_chamberOf {G : JG} {S : JS} {D : JD} {d : Nat} {M : Int} {r : Int → Int} {k z : Int} (hM : jMo S M) (hr : D (M + 1) = r) (h0 : 0 ≤ 21 + 11 * k + z) (h1 : 21 + 11 * k + z < 213) : JM G yX8_chamberOf cX8_chamberOf 3 (some .int) d (0, 0) S D [.inr (.inr (some M)), .inl k, .inl z] (jr (.inl (r (21 + 11 * k + z))) S D) := by
  have hM0 := hM
  obtain ⟨mk, m0, m1, m2, m4, m5, m8, m12, y1, l1, y2, l2, y3, l3, y4, l4, y5, l5, y6, l6, y7, l7⟩ := id hM
  have hr0 := hr
  show JX _ _ _ _ _ _ _ _ _ _ _ [_, _, _] _ _
  refine x_aload_n dX8_chamberOf_0 rfl ?_
  refine gf_RX8_7 dX8_chamberOf_1 rfl (by assumption) ?_
  rw [m0]
  refine x_bipush dX8_chamberOf_4 (by decide) ?_
  refine x_bipush dX8_chamberOf_6 (by decide) ?_
  refine x_iload_n dX8_chamberOf_8 rfl ?_
  refine x_imul dX8_chamberOf_9 ?_
  refine x_iadd dX8_chamberOf_10 ?_
  refine x_iload_n dX8_chamberOf_11 rfl ?_
  refine x_iadd dX8_chamberOf_12 ?_
  refine x_iald dX8_chamberOf_13 (by assumption) ⟨by omega, by omega⟩ ?_
  rw [hr]
  exact x_ireturn dX8_chamberOf_14 rfl rfl ⟨Nat.le_refl _, Nat.le_refl _⟩ ⟨rfl, rfl, rfl⟩
theorem kX8_put {G : JG} {S : JS} {D : JD} {d : Nat} {M : Int} {r : Int → Int} {k z v : Int} (hM : jMo S M) (hr : D (M + 1) = r) (h0 : 0 ≤ 65 + 8 * k + z) (h1 : 65 + 8 * k + z < 213) : JM G yX8_put cX8_put 4 none d (0, 0) S D [.inr (.inr (some M)), .inl k, .inl z, .inl v] (jn S (jup D (M + 1) (65 + 8 * k + z) v)) := by
  have hM0 := hM
  obtain ⟨mk, m0, m1, m2, m4, m5, m8, m12, y1, l1, y2, l2, y3, l3, y4, l4, y5, l5, y6, l6, y7, l7⟩ := id hM
  have hr0 := hr
  show JX _ _ _ _ _ _ _ _ _ _ _ [_, _, _, _] _ _
  refine x_aload_n dX8_put_0 rfl ?_
  refine gf_RX8_7 dX8_put_1 rfl (by assumption) ?_
  rw [m0]
  refine x_bipush dX8_put_4 (by decide) ?_
  refine x_bipush dX8_put_6 (by decide) ?_
  refine x_iload_n dX8_put_8 rfl ?_
  refine x_imul dX8_put_9 ?_
  refine x_iadd dX8_put_10 ?_
  refine x_iload_n dX8_put_11 rfl ?_
  refine x_iadd dX8_put_12 ?_
  refine x_iload_n dX8_put_13 rfl ?_
  refine x_iast dX8_put_14 (by assumption) ⟨by omega, by omega⟩ ?_
  exact x_return dX8_put_15 rfl ⟨Nat.le_refl _, Nat.le_refl _⟩ ⟨rfl, rfl, rfl⟩
theorem kX8_weight {G : JG} {S : JS} {D : JD} {d : Nat} {M : Int} {r : Int → Int} {k : Int} (hM : jMo S M) (hr : D (M + 1) = r)(h0 : 0 ≤ k) (h1 : k < 12) : JM G yX8_weight cX8_weight 2 (some .int) (d + 1) (0, 0) S D [.inr (.inr (some M)), .inl k] (jr (.inl (sW r k)) S D) := by
  have hM0 := hM
  obtain ⟨mk, m0, m1, m2, m4, m5, m8, m12, y1, l1, y2, l2, y3, l3, y4, l4, y5, l5, y6, l6, y7, l7⟩ := id hM
  have hr0 := hr
  show JX _ _ _ _ _ _ _ _ _ _ _ [_, _] _ _
  refine x_aload_n dX8_weight_0 rfl ?_
  refine x_iload_n dX8_weight_1 rfl ?_
  refine x_iconst dX8_weight_2 ?_
  refine c_RX8_60d dX8_weight_3 rfl (kX8_of hM0 hr0 (by omega) (by omega)) (by assumption) (Nat.le_of_ble_eq_true rfl) (Nat.le_of_ble_eq_true rfl) ⟨Nat.le_refl _, Nat.le_refl _⟩ ?_
  refine x_aload_n dX8_weight_6 rfl ?_
  refine x_iload_n dX8_weight_7 rfl ?_
  refine x_iconst dX8_weight_8 ?_
  refine c_RX8_60d dX8_weight_9 rfl (kX8_of hM0 hr0 (by omega) (by omega)) (by assumption) (Nat.le_of_ble_eq_true rfl) (Nat.le_of_ble_eq_true rfl) ⟨Nat.le_refl _, Nat.le_refl _⟩ ?_
  refine x_iadd dX8_weight_12 ?_
  refine x_aload_n dX8_weight_13 rfl ?_
  refine x_iload_n dX8_weight_14 rfl ?_
  refine x_iconst dX8_weight_15 ?_
  refine c_RX8_60d dX8_weight_16 rfl (kX8_of hM0 hr0 (by omega) (by omega)) (by assumption) (Nat.le_of_ble_eq_true rfl) (Nat.le_of_ble_eq_true rfl) ⟨Nat.le_refl _, Nat.le_refl _⟩ ?_
  refine x_iadd dX8_weight_19 ?_
  exact x_ireturn dX8_weight_20 rfl rfl ⟨Nat.le_refl _, Nat.le_refl _⟩ ⟨by unfold sW; rw [show 65 + 8 * k + 1 = 66 + 8 * k by omega, show 65 + 8 * k + 4 = 69 + 8 * k by omega, show 65 + 8 * k + 5 = 70 + 8 * k by omega], rfl, rfl⟩
theorem kX8_room {G : JG} {S : JS} {D : JD} {d : Nat} {M : Int} {r : Int → Int} {k : Int} (hM : jMo S M) (hr : D (M + 1) = r)(h0 : 0 ≤ k) (h1 : k < 12) : JM G yX8_room cX8_room 2 (some .int) (d + 1) (0, 0) S D [.inr (.inr (some M)), .inl k] (jr (.inl (r (68 + 8 * k) - r (69 + 8 * k) - r (70 + 8 * k))) S D) := by
  have hM0 := hM
  obtain ⟨mk, m0, m1, m2, m4, m5, m8, m12, y1, l1, y2, l2, y3, l3, y4, l4, y5, l5, y6, l6, y7, l7⟩ := id hM
  have hr0 := hr
  show JX _ _ _ _ _ _ _ _ _ _ _ [_, _] _ _
  refine x_aload_n dX8_room_0 rfl ?_
  refine x_iload_n dX8_room_1 rfl ?_
  refine x_iconst dX8_room_2 ?_
  refine c_RX8_60d dX8_room_3 rfl (kX8_of hM0 hr0 (by omega) (by omega)) (by assumption) (Nat.le_of_ble_eq_true rfl) (Nat.le_of_ble_eq_true rfl) ⟨Nat.le_refl _, Nat.le_refl _⟩ ?_
  refine x_aload_n dX8_room_6 rfl ?_
  refine x_iload_n dX8_room_7 rfl ?_
  refine x_iconst dX8_room_8 ?_
  refine c_RX8_60d dX8_room_9 rfl (kX8_of hM0 hr0 (by omega) (by omega)) (by assumption) (Nat.le_of_ble_eq_true rfl) (Nat.le_of_ble_eq_true rfl) ⟨Nat.le_refl _, Nat.le_refl _⟩ ?_
  refine x_isub dX8_room_12 ?_
  refine x_aload_n dX8_room_13 rfl ?_
  refine x_iload_n dX8_room_14 rfl ?_
  refine x_iconst dX8_room_15 ?_
  refine c_RX8_60d dX8_room_16 rfl (kX8_of hM0 hr0 (by omega) (by omega)) (by assumption) (Nat.le_of_ble_eq_true rfl) (Nat.le_of_ble_eq_true rfl) ⟨Nat.le_refl _, Nat.le_refl _⟩ ?_
  refine x_isub dX8_room_19 ?_
  exact x_ireturn dX8_room_20 rfl rfl ⟨Nat.le_refl _, Nat.le_refl _⟩ ⟨by rw [show 65 + 8 * k + 3 = 68 + 8 * k by omega, show 65 + 8 * k + 4 = 69 + 8 * k by omega, show 65 + 8 * k + 5 = 70 + 8 * k by omega], rfl, rfl⟩
theorem kX8_openGate {G : JG} {S : JS} {D : JD} {d : Nat} {M : Int} {r : Int → Int} {c : Int} (hM : jMo S M) (hr : D (M + 1) = r)(h0 : 0 ≤ c) (h1 : c < 4) : JM G yX8_openGate cX8_openGate 2 (some .int) (d + 1) (0, 0) S D [.inr (.inr (some M)), .inl c] (jr (.inl (r (29 + 11 * c))) S D) := by
  have hM0 := hM
  obtain ⟨mk, m0, m1, m2, m4, m5, m8, m12, y1, l1, y2, l2, y3, l3, y4, l4, y5, l5, y6, l6, y7, l7⟩ := id hM
  have hr0 := hr
  show JX _ _ _ _ _ _ _ _ _ _ _ [_, _] _ _
  refine x_aload_n dX8_openGate_0 rfl ?_
  refine x_iload_n dX8_openGate_1 rfl ?_
  refine x_bipush dX8_openGate_2 (by decide) ?_
  refine c_RX8_89d dX8_openGate_4 rfl (kX8_chamberOf hM0 hr0 (by omega) (by omega)) (by assumption) (Nat.le_of_ble_eq_true rfl) (Nat.le_of_ble_eq_true rfl) ⟨Nat.le_refl _, Nat.le_refl _⟩ ?_
  exact x_ireturn dX8_openGate_7 rfl rfl ⟨Nat.le_refl _, Nat.le_refl _⟩ ⟨by rw [show 21 + 11 * c + 8 = 29 + 11 * c by omega], rfl, rfl⟩
theorem kX8_sillHeight {G : JG} {S : JS} {D : JD} {d : Nat} {M : Int} {r : Int → Int} {c g : Int} (hM : jMo S M) (hr : D (M + 1) = r)(h0 : 0 ≤ c) (h1 : c < 4) (hg : g = 0 ∨ g = 1) : JM G yX8_sillHeight cX8_sillHeight 3 (some .int) (d + 1) (0, 0) S D [.inr (.inr (some M)), .inl c, .inl g] (jr (.inl (sHg r c g)) S D) := by
  have hM0 := hM
  obtain ⟨mk, m0, m1, m2, m4, m5, m8, m12, y1, l1, y2, l2, y3, l3, y4, l4, y5, l5, y6, l6, y7, l7⟩ := id hM
  have hr0 := hr
  show JX _ _ _ _ _ _ _ _ _ _ _ [_, _, _] _ _
  refine x_aload_n dX8_sillHeight_0 rfl ?_
  refine x_iload_n dX8_sillHeight_1 rfl ?_
  refine x_iconst dX8_sillHeight_2 ?_
  refine x_iload_n dX8_sillHeight_3 rfl ?_
  refine x_iadd dX8_sillHeight_4 ?_
  refine c_RX8_89d dX8_sillHeight_5 rfl (kX8_chamberOf hM0 hr0 (by omega) (by omega)) (by assumption) (Nat.le_of_ble_eq_true rfl) (Nat.le_of_ble_eq_true rfl) ⟨Nat.le_refl _, Nat.le_refl _⟩ ?_
  refine x_aload_n dX8_sillHeight_8 rfl ?_
  refine x_iload_n dX8_sillHeight_9 rfl ?_
  refine x_bipush dX8_sillHeight_10 (by decide) ?_
  refine x_iload_n dX8_sillHeight_12 rfl ?_
  refine x_iadd dX8_sillHeight_13 ?_
  refine c_RX8_89d dX8_sillHeight_14 rfl (kX8_chamberOf hM0 hr0 (by omega) (by omega)) (by assumption) (Nat.le_of_ble_eq_true rfl) (Nat.le_of_ble_eq_true rfl) ⟨Nat.le_refl _, Nat.le_refl _⟩ ?_
  refine x_iadd dX8_sillHeight_17 ?_
  exact x_ireturn dX8_sillHeight_18 rfl rfl ⟨Nat.le_refl _, Nat.le_refl _⟩ ⟨by unfold sHg; rw [show 21 + 11 * c + (4 + g) = 25 + 11 * c + g by omega, show 21 + 11 * c + (6 + g) = 27 + 11 * c + g by omega], rfl, rfl⟩
theorem kX8_isReach {G : JG} {S : JS} {D : JD} {d : Nat} {a f w : Int} (ra : i32 a) (rf : i32 f) (rw0 : i32 w) : JM G yX8_isReach cX8_isReach 3 (some .boolean) (d + 1) (0, 0) S D [.inl a, .inl f, .inl w] (jr (.inl (if gReach a f w then 1 else 0)) S D) := by
  show JX _ _ _ _ _ _ _ _ _ _ _ [_, _, _] _ _
  refine x_iload_n dX8_isReach_0 rfl ?_
  refine x_bipush dX8_isReach_1 (by decide) ?_
  refine x_ldc (e := 100000) dX8_isReach_3 ct_RX8_99 (by decide) ?_
  refine c_RX8_49d dX8_isReach_5 rfl (kX8_in ra ⟨by omega, by omega⟩ ⟨by omega, by omega⟩) (Nat.le_of_ble_eq_true rfl) (Nat.le_of_ble_eq_true rfl) ⟨Nat.le_refl _, Nat.le_refl _⟩ ?_
  refine x_if_eq (tgt := 36) dX8_isReach_8 (by decide) ⟨by split <;> omega, by split <;> omega⟩ (fun hb8 => ?_) (fun hb8 => ?_)
  · refine x_iconst dX8_isReach_36 ?_
    exact x_ireturn dX8_isReach_37 rfl (jbool (by first | exact Or.inl rfl | exact Or.inr rfl)).1 ⟨Nat.le_refl _, Nat.le_refl _⟩ ⟨by unfold gReach; congr; omega, rfl, rfl⟩
  · refine x_iload_n dX8_isReach_11 rfl ?_
    refine x_iconst dX8_isReach_12 ?_
    refine x_sipush dX8_isReach_13 (by decide) ?_
    refine c_RX8_49d dX8_isReach_16 rfl (kX8_in rf ⟨by omega, by omega⟩ ⟨by omega, by omega⟩) (Nat.le_of_ble_eq_true rfl) (Nat.le_of_ble_eq_true rfl) ⟨Nat.le_refl _, Nat.le_refl _⟩ ?_
    refine x_if_eq (tgt := 36) dX8_isReach_19 (by decide) ⟨by split <;> omega, by split <;> omega⟩ (fun hb19 => ?_) (fun hb19 => ?_)
    · refine x_iconst dX8_isReach_36 ?_
      exact x_ireturn dX8_isReach_37 rfl (jbool (by first | exact Or.inl rfl | exact Or.inr rfl)).1 ⟨Nat.le_refl _, Nat.le_refl _⟩ ⟨by unfold gReach; congr; omega, rfl, rfl⟩
    · refine x_iload_n dX8_isReach_22 rfl ?_
      refine x_iconst dX8_isReach_23 ?_
      refine x_ldc (e := 10000000) dX8_isReach_24 ct_RX8_100 (by decide) ?_
      refine c_RX8_49d dX8_isReach_26 rfl (kX8_in rw0 ⟨by omega, by omega⟩ ⟨by omega, by omega⟩) (Nat.le_of_ble_eq_true rfl) (Nat.le_of_ble_eq_true rfl) ⟨Nat.le_refl _, Nat.le_refl _⟩ ?_
      refine x_if_eq (tgt := 36) dX8_isReach_29 (by decide) ⟨by split <;> omega, by split <;> omega⟩ (fun hb29 => ?_) (fun hb29 => ?_)
      · refine x_iconst dX8_isReach_36 ?_
        exact x_ireturn dX8_isReach_37 rfl (jbool (by first | exact Or.inl rfl | exact Or.inr rfl)).1 ⟨Nat.le_refl _, Nat.le_refl _⟩ ⟨by unfold gReach; congr; omega, rfl, rfl⟩
      · refine x_iconst dX8_isReach_32 ?_
        refine x_goto (tgt := 37) dX8_isReach_33 (by decide) ?_
        exact x_ireturn dX8_isReach_37 rfl (jbool (by first | exact Or.inl rfl | exact Or.inr rfl)).1 ⟨Nat.le_refl _, Nat.le_refl _⟩ ⟨by unfold gReach; congr; omega, rfl, rfl⟩
theorem kX8_isTons {G : JG} {S : JS} {D : JD} {d : Nat} {v : Int} (rv : i32 v) : JM G yX8_isTons cX8_isTons 1 (some .boolean) (d + 1) (0, 0) S D [.inl v] (jr (.inl (if v ≠ 0 ∧ -1000 ≤ v ∧ v ≤ 1000 then 1 else 0)) S D) := by
  show JX _ _ _ _ _ _ _ _ _ _ _ [_] _ _
  refine x_iload_n dX8_isTons_0 rfl ?_
  refine x_sipush dX8_isTons_1 (by decide) ?_
  refine x_sipush dX8_isTons_4 (by decide) ?_
  refine c_RX8_49d dX8_isTons_7 rfl (kX8_in rv ⟨by omega, by omega⟩ ⟨by omega, by omega⟩) (Nat.le_of_ble_eq_true rfl) (Nat.le_of_ble_eq_true rfl) ⟨Nat.le_refl _, Nat.le_refl _⟩ ?_
  refine x_if_eq (tgt := 21) dX8_isTons_10 (by decide) ⟨by split <;> omega, by split <;> omega⟩ (fun hb10 => ?_) (fun hb10 => ?_)
  · refine x_iconst dX8_isTons_21 ?_
    exact x_ireturn dX8_isTons_22 rfl (jbool (by first | exact Or.inl rfl | exact Or.inr rfl)).1 ⟨Nat.le_refl _, Nat.le_refl _⟩ ⟨by congr; omega, rfl, rfl⟩
  · refine x_iload_n dX8_isTons_13 rfl ?_
    refine x_if_eq (tgt := 21) dX8_isTons_14 (by decide) rv (fun hb14 => ?_) (fun hb14 => ?_)
    · refine x_iconst dX8_isTons_21 ?_
      exact x_ireturn dX8_isTons_22 rfl (jbool (by first | exact Or.inl rfl | exact Or.inr rfl)).1 ⟨Nat.le_refl _, Nat.le_refl _⟩ ⟨by congr; omega, rfl, rfl⟩
    · refine x_iconst dX8_isTons_17 ?_
      refine x_goto (tgt := 22) dX8_isTons_18 (by decide) ?_
      exact x_ireturn dX8_isTons_22 rfl (jbool (by first | exact Or.inl rfl | exact Or.inr rfl)).1 ⟨Nat.le_refl _, Nat.le_refl _⟩ ⟨by congr; omega, rfl, rfl⟩
theorem kX8_refuse {G : JG} {S : JS} {D : JD} {d : Nat} {M e : Int} (hM : jMo S M) : JM G yX8_refuse cX8_refuse 2 (some .int) d (0, 0) S D [.inr (.inr (some M)), .inl e] (jr (.inl (-100000003)) S (jup D M 6 e)) := by
  have mk := hM.1
  show JX _ _ _ _ _ _ _ _ _ _ _ [_, _] _ _
  refine x_aload_n dX8_refuse_0 rfl ?_
  refine x_iload_n dX8_refuse_1 rfl ?_
  refine pf_RX8_33 dX8_refuse_2 rfl (by assumption) ?_
  refine x_ldc (e := -100000003) dX8_refuse_5 ct_RX8_37 (by decide) ?_
  exact x_ireturn dX8_refuse_7 rfl rfl ⟨Nat.le_refl _, Nat.le_refl _⟩ ⟨rfl, rfl, rfl⟩
