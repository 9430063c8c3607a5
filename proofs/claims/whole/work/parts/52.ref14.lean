/-! THE REFERENCE: supply, and what grows -/
theorem rIn.supply {t i v : Int} {r : Int → Int} (hI : rIn t r) (h0 : 0 ≤ i) (h1 : i < r 0) (h : -1000000 ≤ v ∧ v ≤ 1000000) (hv : 0 ≤ r (8 + 3 * i) + v ∧ r (8 + 3 * i) + v ≤ 100000000) : rIn (t + 100) (rSupply i v r) := by
  have b1 := hI.1
  have wp : rPl r i := Or.inl ⟨h0, h1⟩
  have wa : wA i + 2 = 8 + 3 * i := by rw [wA_r (by omega)]; omega
  have hIa := hI.wat1 (t2 := t + 100) (x := r (8 + 3 * i) + v) wp hv.1 (by omega) (by rw [wa]; have := hI.2.2.2.2.1; omega)
  rw [wa] at hIa
  have er : ∀ j : Int, j < 3 ∨ 6 ≤ j → rSupply i v r j = rup r (8 + 3 * i) (r (8 + 3 * i) + v) j := fun j hj => rup_ne (by omega)
  have r3 : rSupply i v r 3 = r 3 := by unfold rSupply; rw [rup_ne (by omega), rup_ne (by omega)]
  have r4 : rSupply i v r 4 = r 4 + v := by unfold rSupply; rw [rup_eq]
  have r5 : rSupply i v r 5 = r 5 := by unfold rSupply; rw [rup_ne (by omega), rup_ne (by omega)]
  have r0 : rup r (8 + 3 * i) (r (8 + 3 * i) + v) 0 = r 0 := rup_ne (by omega)
  exact hIa.top (t2 := t + 100) (r2 := rSupply i v r) (by omega) er (by rw [r3, r4, r5, r0]; omega)
def rZc (r : Int → Int) (p m : Int) : Int → Int := fun j => if p ≤ j ∧ j < p + m then 0 else r j
theorem rZc_0 {r : Int → Int} {p : Int} : rZc r p 0 = r := by
  funext j
  unfold rZc
  rw [if_neg (by omega)]
theorem rZc_o {r : Int → Int} {p m j : Int} (h : j < p ∨ p + m ≤ j) : rZc r p m j = r j := by
  unfold rZc
  rw [if_neg (by omega)]
theorem rZc_step {r : Int → Int} {p m : Int} (h : 0 ≤ m) : rup (rZc r p m) (p + m) 0 = rZc r p (m + 1) := by
  funext j
  unfold rup rZc
  by_cases e : j = p + m
  · rw [if_pos e, if_pos (by omega)]
  · rw [if_neg e]
    by_cases q : p ≤ j ∧ j < p + m
    · rw [if_pos q, if_pos (by omega)]
    · rw [if_neg q, if_neg (by omega)]
theorem addB_row {p l w i h : Int} {r : Int → Int} (h0 : 0 ≤ r 2) : rup (rup (rup (rup (rup (rup (rZc r (65 + 8 * r 2) 8) (65 + 8 * r 2) l) (66 + 8 * r 2) w) (67 + 8 * r 2) i) (68 + 8 * r 2) h) (71 + 8 * r 2) p) 2 (r 2 + 1) = rAddB p l w i h r := by
  funext j
  simp only [rAddB, rZc, rup]
  by_cases e0 : j = 2
  · repeat (first | rw [if_pos (by omega)] | rw [if_neg (by omega)])
  · skip
    by_cases e1 : j = 65 + 8 * r 2
    · repeat (first | rw [if_pos (by omega)] | rw [if_neg (by omega)])
    · skip
      by_cases e2 : j = 66 + 8 * r 2
      · repeat (first | rw [if_pos (by omega)] | rw [if_neg (by omega)])
      · skip
        by_cases e3 : j = 67 + 8 * r 2
        · repeat (first | rw [if_pos (by omega)] | rw [if_neg (by omega)])
        · skip
          by_cases e4 : j = 68 + 8 * r 2
          · repeat (first | rw [if_pos (by omega)] | rw [if_neg (by omega)])
          · skip
            by_cases e5 : j = 69 + 8 * r 2
            · repeat (first | rw [if_pos (by omega)] | rw [if_neg (by omega)])
            · skip
              by_cases e6 : j = 70 + 8 * r 2
              · repeat (first | rw [if_pos (by omega)] | rw [if_neg (by omega)])
              · skip
                by_cases e7 : j = 71 + 8 * r 2
                · repeat (first | rw [if_pos (by omega)] | rw [if_neg (by omega)])
                · skip
                  by_cases e8 : j = 72 + 8 * r 2
                  · repeat (first | rw [if_pos (by omega)] | rw [if_neg (by omega)])
                  · skip
                    repeat (first | rw [if_pos (by omega)] | rw [if_neg (by omega)])
theorem addC_row {al l f : Int} {r : Int → Int} (h0 : 0 ≤ r 1) : rup (rup (rup (rup (rup (rup (rZc r (21 + 11 * r 1) 11) (21 + 11 * r 1) al) (22 + 11 * r 1) f) (24 + 11 * r 1) l) (29 + 11 * r 1) (-100000005)) (161 + 13 * r 1) 0) 1 (r 1 + 1) = rPutC al l f r := by
  funext j
  simp only [rPutC, rZc, rup]
  by_cases e0 : j = 1
  · repeat (first | rw [if_pos (by omega)] | rw [if_neg (by omega)])
  · skip
    by_cases e1 : j = 161 + 13 * r 1
    · repeat (first | rw [if_pos (by omega)] | rw [if_neg (by omega)])
    · skip
      by_cases e2 : j = 21 + 11 * r 1
      · repeat (first | rw [if_pos (by omega)] | rw [if_neg (by omega)])
      · skip
        by_cases e3 : j = 22 + 11 * r 1
        · repeat (first | rw [if_pos (by omega)] | rw [if_neg (by omega)])
        · skip
          by_cases e4 : j = 23 + 11 * r 1
          · repeat (first | rw [if_pos (by omega)] | rw [if_neg (by omega)])
          · skip
            by_cases e5 : j = 24 + 11 * r 1
            · repeat (first | rw [if_pos (by omega)] | rw [if_neg (by omega)])
            · skip
              by_cases e6 : j = 25 + 11 * r 1
              · repeat (first | rw [if_pos (by omega)] | rw [if_neg (by omega)])
              · skip
                by_cases e7 : j = 26 + 11 * r 1
                · repeat (first | rw [if_pos (by omega)] | rw [if_neg (by omega)])
                · skip
                  by_cases e8 : j = 27 + 11 * r 1
                  · repeat (first | rw [if_pos (by omega)] | rw [if_neg (by omega)])
                  · skip
                    by_cases e9 : j = 28 + 11 * r 1
                    · repeat (first | rw [if_pos (by omega)] | rw [if_neg (by omega)])
                    · skip
                      by_cases e10 : j = 29 + 11 * r 1
                      · repeat (first | rw [if_pos (by omega)] | rw [if_neg (by omega)])
                      · skip
                        by_cases e11 : j = 30 + 11 * r 1
                        · repeat (first | rw [if_pos (by omega)] | rw [if_neg (by omega)])
                        · skip
                          by_cases e12 : j = 31 + 11 * r 1
                          · repeat (first | rw [if_pos (by omega)] | rw [if_neg (by omega)])
                          · skip
                            repeat (first | rw [if_pos (by omega)] | rw [if_neg (by omega)])
theorem kX8_putReach {G : JG} {S : JS} {D : JD} {d : Nat} {M : Int} {r : Int → Int} {p f w : Int} (hM : jMo S M) (hr : D (M + 1) = r) (h0 : 0 ≤ r 0) (h5 : r 0 < 5) : JM G yX8_putReach cX8_putReach 5 none d (0, 0) S D [.inr (.inr (some M)), .inl p, .inl f, .inl w] (jnP S (fun D2 => D2 (M + 1) = rPutR p f w r ∧ ∀ x : Int, x ≠ M + 1 → D2 x = D x)) := by
  have hM0 := hM
  obtain ⟨mk, m0, m1, m2, m4, m5, m8, m12, y1, l1, y2, l2, y3, l3, y4, l4, y5, l5, y6, l6, y7, l7⟩ := id hM
  have hr0 := hr
  show JX _ _ _ _ _ _ _ _ _ _ _ [_, _, _, _, _] _ _
  refine x_bipush dX8_putReach_0 (by decide) ?_
  refine x_iconst dX8_putReach_2 ?_
  refine x_aload_n dX8_putReach_3 rfl ?_
  refine gf_RX8_7 dX8_putReach_4 rfl (by assumption) ?_
  rw [m0]
  refine x_iconst dX8_putReach_7 ?_
  refine x_iald dX8_putReach_8 (by assumption) ⟨by omega, by omega⟩ ?_
  rw [hr]
  refine x_imul dX8_putReach_9 ?_
  refine x_iadd dX8_putReach_10 ?_
  refine x_istore dX8_putReach_11 (by decide) ?_
  show JX _ _ _ _ _ _ _ _ _ _ _ [_, _, _, _, _] _ _
  refine x_aload_n dX8_putReach_13 rfl ?_
  refine gf_RX8_7 dX8_putReach_14 rfl (by assumption) ?_
  rw [m0]
  refine x_iload dX8_putReach_17 rfl ?_
  refine x_iconst dX8_putReach_19 ?_
  refine x_iadd dX8_putReach_20 ?_
  rw [show 6 + 3 * r 0 + 0 = 6 + 3 * r 0 by omega]
  refine x_iload_n dX8_putReach_21 rfl ?_
  refine x_iast dX8_putReach_22 (by assumption) ⟨by omega, by omega⟩ ?_
  refine x_aload_n dX8_putReach_23 rfl ?_
  refine gf_RX8_7 dX8_putReach_24 rfl (by assumption) ?_
  rw [m0]
  refine x_iload dX8_putReach_27 rfl ?_
  refine x_iconst dX8_putReach_29 ?_
  refine x_iadd dX8_putReach_30 ?_
  rw [show 6 + 3 * r 0 + 1 = 7 + 3 * r 0 by omega]
  refine x_iload_n dX8_putReach_31 rfl ?_
  refine x_iast dX8_putReach_32 (by assumption) ⟨by omega, by omega⟩ ?_
  refine x_aload_n dX8_putReach_33 rfl ?_
  refine gf_RX8_7 dX8_putReach_34 rfl (by assumption) ?_
  rw [m0]
  refine x_iload dX8_putReach_37 rfl ?_
  refine x_iconst dX8_putReach_39 ?_
  refine x_iadd dX8_putReach_40 ?_
  rw [show 6 + 3 * r 0 + 2 = 8 + 3 * r 0 by omega]
  refine x_iload_n dX8_putReach_41 rfl ?_
  refine x_iast dX8_putReach_42 (by assumption) ⟨by omega, by omega⟩ ?_
  refine x_aload_n dX8_putReach_43 rfl ?_
  refine gf_RX8_7 dX8_putReach_44 rfl (by assumption) ?_
  rw [m0]
  refine x_iconst dX8_putReach_47 ?_
  refine x_dup2 dX8_putReach_48 (fun _ h => by cases h) (fun _ h => by cases h) ?_
  refine x_iald dX8_putReach_49 (by assumption) ⟨by omega, by omega⟩ ?_
  rw [jup_nk (show (0 : Int) ≠ 8 + 3 * r 0 by omega), jup_nk (show (0 : Int) ≠ 7 + 3 * r 0 by omega), jup_nk (show (0 : Int) ≠ 6 + 3 * r 0 by omega), hr]
  refine x_iconst dX8_putReach_50 ?_
  refine x_iadd dX8_putReach_51 ?_
  refine x_iast dX8_putReach_52 (by assumption) ⟨by omega, by omega⟩ ?_
  refine x_aload_n dX8_putReach_53 rfl ?_
  refine gf_RX8_7 dX8_putReach_54 rfl (by assumption) ?_
  rw [m0]
  refine x_iconst dX8_putReach_57 ?_
  refine x_dup2 dX8_putReach_58 (fun _ h => by cases h) (fun _ h => by cases h) ?_
  refine x_iald dX8_putReach_59 (by assumption) ⟨by omega, by omega⟩ ?_
  rw [jup_nk (show (5 : Int) ≠ 0 by omega), jup_nk (show (5 : Int) ≠ 8 + 3 * r 0 by omega), jup_nk (show (5 : Int) ≠ 7 + 3 * r 0 by omega), jup_nk (show (5 : Int) ≠ 6 + 3 * r 0 by omega), hr]
  refine x_iload_n dX8_putReach_60 rfl ?_
  refine x_iadd dX8_putReach_61 ?_
  refine x_iast dX8_putReach_62 (by assumption) ⟨by omega, by omega⟩ ?_
  exact x_return dX8_putReach_63 rfl ⟨Nat.le_refl _, Nat.le_refl _⟩ ⟨rfl, rfl, by rw [jup_row, jup_row, jup_row, jup_row, jup_row, hr]; rfl, fun x hx => by rw [jup_off hx, jup_off hx, jup_off hx, jup_off hx, jup_off hx]⟩
theorem kX8_supply_u {G : JG} {S : JS} {D : JD} {d : Nat} {M n t : Int} {hs : Int → Int → Int} {r : Int → Int} {i v : Int} (hM : jMo S M) (hr : D (M + 1) = r) (hI : rIn t r) (ht : t + 1 ≤ 60000) (hm : jMh D M n hs) (ri : i32 i) (rv : i32 v) (h : ¬ (0 ≤ i ∧ i < r 0)) : JM G yX8_supply cX8_supply 5 (some .int) (d + 7) (0, 0) S D [.inr (.inr (some M)), .inl i, .inl v] (jrP S (jRf D M n hs r (-100000001, none, 0))) := by
  have hM0 := hM
  obtain ⟨mk, m0, m1, m2, m4, m5, m8, m12, y1, l1, y2, l2, y3, l3, y4, l4, y5, l5, y6, l6, y7, l7⟩ := id hM
  have hr0 := hr
  have b1 := hI.1
  show JX _ _ _ _ _ _ _ _ _ _ _ [_, _, _, _, _] _ _
  refine x_aload_n dX8_supply_0 rfl ?_
  refine x_iload_n dX8_supply_1 rfl ?_
  refine c_RX8_117d dX8_supply_2 rfl (kX8_noReach hM0 hr0 ri (by omega)) (by assumption) (Nat.le_of_ble_eq_true rfl) (Nat.le_of_ble_eq_true rfl) ⟨Nat.le_refl _, Nat.le_refl _⟩ ?_
  refine x_if_eq (tgt := 11) dX8_supply_5 (by decide) ⟨by split <;> omega, by split <;> omega⟩ (fun h => absurd h (by omega)) (fun hb5 => ?_)
  refine x_ldc (e := -100000001) dX8_supply_8 ct_RX8_41 (by decide) ?_
  exact x_ireturn dX8_supply_10 rfl rfl ⟨Nat.le_refl _, Nat.le_refl _⟩ ⟨rfl, _, rfl, jRf_none hr hm⟩
theorem kX8_supply_b {G : JG} {S : JS} {D : JD} {d : Nat} {M n t : Int} {hs : Int → Int → Int} {r : Int → Int} {i v : Int} (hM : jMo S M) (hr : D (M + 1) = r) (hI : rIn t r) (ht : t + 1 ≤ 60000) (hm : jMh D M n hs) (h0 : 0 ≤ i) (h1 : i < r 0) (rv : i32 v) (h : ¬ (-1000000 ≤ v ∧ v ≤ 1000000)) : JM G yX8_supply cX8_supply 5 (some .int) (d + 7) (0, 0) S D [.inr (.inr (some M)), .inl i, .inl v] (jrP S (jRf D M n hs r (-100000002, none, 0))) := by
  have hM0 := hM
  obtain ⟨mk, m0, m1, m2, m4, m5, m8, m12, y1, l1, y2, l2, y3, l3, y4, l4, y5, l5, y6, l6, y7, l7⟩ := id hM
  have hr0 := hr
  have b1 := hI.1
  have ar := hI.ar h0 h1
  have mw := (hI.maxw (by omega)).2.1 i h0 h1
  have wa : wA i + 2 = 8 + 3 * i := by rw [wA_r (by omega)]; omega
  show JX _ _ _ _ _ _ _ _ _ _ _ [_, _, _, _, _] _ _
  refine x_aload_n dX8_supply_0 rfl ?_
  refine x_iload_n dX8_supply_1 rfl ?_
  refine c_RX8_117d dX8_supply_2 rfl (kX8_noReach hM0 hr0 ⟨by omega, by omega⟩ (by omega)) (by assumption) (Nat.le_of_ble_eq_true rfl) (Nat.le_of_ble_eq_true rfl) ⟨Nat.le_refl _, Nat.le_refl _⟩ ?_
  refine x_if_eq (tgt := 11) dX8_supply_5 (by decide) ⟨by split <;> omega, by split <;> omega⟩ (fun hb5 => ?_) (fun h => (h (by omega)).elim)
  refine x_iload_n dX8_supply_11 rfl ?_
  refine x_ldc (e := -1000000) dX8_supply_12 ct_RX8_120 (by decide) ?_
  refine x_ldc (e := 1000000) dX8_supply_14 ct_RX8_121 (by decide) ?_
  refine c_RX8_49d dX8_supply_16 rfl (kX8_in rv ⟨by omega, by omega⟩ ⟨by omega, by omega⟩) (Nat.le_of_ble_eq_true rfl) (Nat.le_of_ble_eq_true rfl) ⟨Nat.le_refl _, Nat.le_refl _⟩ ?_
  refine x_if_ne (tgt := 25) dX8_supply_19 (by decide) ⟨by split <;> omega, by split <;> omega⟩ (fun h => absurd h (by omega)) (fun hb19 => ?_)
  refine x_ldc (e := -100000002) dX8_supply_22 ct_RX8_104 (by decide) ?_
  exact x_ireturn dX8_supply_24 rfl rfl ⟨Nat.le_refl _, Nat.le_refl _⟩ ⟨rfl, _, rfl, jRf_none hr hm⟩
theorem kX8_supply_r1 {G : JG} {S : JS} {D : JD} {d : Nat} {M n t : Int} {hs : Int → Int → Int} {r : Int → Int} {i v : Int} (hM : jMo S M) (hr : D (M + 1) = r) (hI : rIn t r) (ht : t + 1 ≤ 60000) (hm : jMh D M n hs) (h0 : 0 ≤ i) (h1 : i < r 0) (rv : i32 v) (h : -1000000 ≤ v ∧ v ≤ 1000000) (hv : r (8 + 3 * i) + v < 0) : JM G yX8_supply cX8_supply 5 (some .int) (d + 7) (0, 0) S D [.inr (.inr (some M)), .inl i, .inl v] (jrP S (jRf D M n hs r (-100000003, none, 8))) := by
  have hM0 := hM
  obtain ⟨mk, m0, m1, m2, m4, m5, m8, m12, y1, l1, y2, l2, y3, l3, y4, l4, y5, l5, y6, l6, y7, l7⟩ := id hM
  have hr0 := hr
  have b1 := hI.1
  have ar := hI.ar h0 h1
  have mw := (hI.maxw (by omega)).2.1 i h0 h1
  have wa : wA i + 2 = 8 + 3 * i := by rw [wA_r (by omega)]; omega
  show JX _ _ _ _ _ _ _ _ _ _ _ [_, _, _, _, _] _ _
  refine x_aload_n dX8_supply_0 rfl ?_
  refine x_iload_n dX8_supply_1 rfl ?_
  refine c_RX8_117d dX8_supply_2 rfl (kX8_noReach hM0 hr0 ⟨by omega, by omega⟩ (by omega)) (by assumption) (Nat.le_of_ble_eq_true rfl) (Nat.le_of_ble_eq_true rfl) ⟨Nat.le_refl _, Nat.le_refl _⟩ ?_
  refine x_if_eq (tgt := 11) dX8_supply_5 (by decide) ⟨by split <;> omega, by split <;> omega⟩ (fun hb5 => ?_) (fun h => (h (by omega)).elim)
  refine x_iload_n dX8_supply_11 rfl ?_
  refine x_ldc (e := -1000000) dX8_supply_12 ct_RX8_120 (by decide) ?_
  refine x_ldc (e := 1000000) dX8_supply_14 ct_RX8_121 (by decide) ?_
  refine c_RX8_49d dX8_supply_16 rfl (kX8_in rv ⟨by omega, by omega⟩ ⟨by omega, by omega⟩) (Nat.le_of_ble_eq_true rfl) (Nat.le_of_ble_eq_true rfl) ⟨Nat.le_refl _, Nat.le_refl _⟩ ?_
  refine x_if_ne (tgt := 25) dX8_supply_19 (by decide) ⟨by split <;> omega, by split <;> omega⟩ (fun hb19 => ?_) (fun h => (h (by omega)).elim)
  refine x_iload_n dX8_supply_25 rfl ?_
  refine c_RX8_68d dX8_supply_26 rfl (kX8_waterAt ⟨by omega, by omega⟩) (Nat.le_of_ble_eq_true rfl) (Nat.le_of_ble_eq_true rfl) ⟨Nat.le_refl _, Nat.le_refl _⟩ ?_
  refine x_iconst dX8_supply_29 ?_
  refine x_iadd dX8_supply_30 ?_
  rw [wa]
  refine x_istore_n dX8_supply_31 (by decide) ?_
  show JX _ _ _ _ _ _ _ _ _ _ _ [_, _, _, _, _] _ _
  refine x_aload_n dX8_supply_32 rfl ?_
  refine gf_RX8_7 dX8_supply_33 rfl (by assumption) ?_
  rw [m0]
  refine x_iload_n dX8_supply_36 rfl ?_
  refine x_iald dX8_supply_37 (by assumption) ⟨by omega, by omega⟩ ?_
  rw [hr]
  refine x_iload_n dX8_supply_38 rfl ?_
  refine x_iadd dX8_supply_39 ?_
  refine x_if_lt (tgt := 56) dX8_supply_40 (by decide) ⟨by omega, by omega⟩ (fun hb40 => ?_) (fun h => (h (by omega)).elim)
  refine x_aload_n dX8_supply_56 rfl ?_
  refine x_bipush dX8_supply_57 (by decide) ?_
  refine c_RX8_123d dX8_supply_59 rfl (kX8_refuse hM0) (by assumption) (Nat.le_of_ble_eq_true rfl) (Nat.le_of_ble_eq_true rfl) ⟨Nat.le_refl _, Nat.le_refl _⟩ ?_
  exact x_ireturn dX8_supply_62 rfl rfl ⟨Nat.le_refl _, Nat.le_refl _⟩ ⟨rfl, _, rfl, jRf_ref hr hm (by decide)⟩
theorem kX8_supply_r2 {G : JG} {S : JS} {D : JD} {d : Nat} {M n t : Int} {hs : Int → Int → Int} {r : Int → Int} {i v : Int} (hM : jMo S M) (hr : D (M + 1) = r) (hI : rIn t r) (ht : t + 1 ≤ 60000) (hm : jMh D M n hs) (h0 : 0 ≤ i) (h1 : i < r 0) (rv : i32 v) (h : -1000000 ≤ v ∧ v ≤ 1000000) (hv : 100000000 < r (8 + 3 * i) + v) : JM G yX8_supply cX8_supply 5 (some .int) (d + 7) (0, 0) S D [.inr (.inr (some M)), .inl i, .inl v] (jrP S (jRf D M n hs r (-100000003, none, 8))) := by
  have hM0 := hM
  obtain ⟨mk, m0, m1, m2, m4, m5, m8, m12, y1, l1, y2, l2, y3, l3, y4, l4, y5, l5, y6, l6, y7, l7⟩ := id hM
  have hr0 := hr
  have b1 := hI.1
  have ar := hI.ar h0 h1
  have mw := (hI.maxw (by omega)).2.1 i h0 h1
  have wa : wA i + 2 = 8 + 3 * i := by rw [wA_r (by omega)]; omega
  show JX _ _ _ _ _ _ _ _ _ _ _ [_, _, _, _, _] _ _
  refine x_aload_n dX8_supply_0 rfl ?_
  refine x_iload_n dX8_supply_1 rfl ?_
  refine c_RX8_117d dX8_supply_2 rfl (kX8_noReach hM0 hr0 ⟨by omega, by omega⟩ (by omega)) (by assumption) (Nat.le_of_ble_eq_true rfl) (Nat.le_of_ble_eq_true rfl) ⟨Nat.le_refl _, Nat.le_refl _⟩ ?_
  refine x_if_eq (tgt := 11) dX8_supply_5 (by decide) ⟨by split <;> omega, by split <;> omega⟩ (fun hb5 => ?_) (fun h => (h (by omega)).elim)
  refine x_iload_n dX8_supply_11 rfl ?_
  refine x_ldc (e := -1000000) dX8_supply_12 ct_RX8_120 (by decide) ?_
  refine x_ldc (e := 1000000) dX8_supply_14 ct_RX8_121 (by decide) ?_
  refine c_RX8_49d dX8_supply_16 rfl (kX8_in rv ⟨by omega, by omega⟩ ⟨by omega, by omega⟩) (Nat.le_of_ble_eq_true rfl) (Nat.le_of_ble_eq_true rfl) ⟨Nat.le_refl _, Nat.le_refl _⟩ ?_
  refine x_if_ne (tgt := 25) dX8_supply_19 (by decide) ⟨by split <;> omega, by split <;> omega⟩ (fun hb19 => ?_) (fun h => (h (by omega)).elim)
  refine x_iload_n dX8_supply_25 rfl ?_
  refine c_RX8_68d dX8_supply_26 rfl (kX8_waterAt ⟨by omega, by omega⟩) (Nat.le_of_ble_eq_true rfl) (Nat.le_of_ble_eq_true rfl) ⟨Nat.le_refl _, Nat.le_refl _⟩ ?_
  refine x_iconst dX8_supply_29 ?_
  refine x_iadd dX8_supply_30 ?_
  rw [wa]
  refine x_istore_n dX8_supply_31 (by decide) ?_
  show JX _ _ _ _ _ _ _ _ _ _ _ [_, _, _, _, _] _ _
  refine x_aload_n dX8_supply_32 rfl ?_
  refine gf_RX8_7 dX8_supply_33 rfl (by assumption) ?_
  rw [m0]
  refine x_iload_n dX8_supply_36 rfl ?_
  refine x_iald dX8_supply_37 (by assumption) ⟨by omega, by omega⟩ ?_
  rw [hr]
  refine x_iload_n dX8_supply_38 rfl ?_
  refine x_iadd dX8_supply_39 ?_
  refine x_if_lt (tgt := 56) dX8_supply_40 (by decide) ⟨by omega, by omega⟩ (fun h => absurd h (by omega)) (fun hb40 => ?_)
  refine x_aload_n dX8_supply_43 rfl ?_
  refine gf_RX8_7 dX8_supply_44 rfl (by assumption) ?_
  rw [m0]
  refine x_iload_n dX8_supply_47 rfl ?_
  refine x_iald dX8_supply_48 (by assumption) ⟨by omega, by omega⟩ ?_
  rw [hr]
  refine x_iload_n dX8_supply_49 rfl ?_
  refine x_iadd dX8_supply_50 ?_
  refine x_ldc (e := 100000000) dX8_supply_51 ct_RX8_122 (by decide) ?_
  refine x_ic_le (tgt := 63) dX8_supply_53 (by decide) ⟨by omega, by omega⟩ ⟨by omega, by omega⟩ (fun h => absurd h (by omega)) (fun hb53 => ?_)
  refine x_aload_n dX8_supply_56 rfl ?_
  refine x_bipush dX8_supply_57 (by decide) ?_
  refine c_RX8_123d dX8_supply_59 rfl (kX8_refuse hM0) (by assumption) (Nat.le_of_ble_eq_true rfl) (Nat.le_of_ble_eq_true rfl) ⟨Nat.le_refl _, Nat.le_refl _⟩ ?_
  exact x_ireturn dX8_supply_62 rfl rfl ⟨Nat.le_refl _, Nat.le_refl _⟩ ⟨rfl, _, rfl, jRf_ref hr hm (by decide)⟩
theorem kX8_supply_y {G : JG} {S : JS} {D : JD} {d : Nat} {M n t : Int} {hs : Int → Int → Int} {r : Int → Int} {i v : Int} (hM : jMo S M) (hr : D (M + 1) = r) (hI : rIn t r) (ht : t + 100 ≤ 60000) (hm : jMh D M n hs) (h0 : 0 ≤ i) (h1 : i < r 0) (rv : i32 v) (h : -1000000 ≤ v ∧ v ≤ 1000000) (hv : 0 ≤ r (8 + 3 * i) + v ∧ r (8 + 3 * i) + v ≤ 100000000) : JM G yX8_supply cX8_supply 5 (some .int) (d + 7) (0, 0) S D [.inr (.inr (some M)), .inl i, .inl v] (jrP S (jRf D M n hs r (sLv (sAll (rSupply i v r)) i, some (rSupply i v r), 0))) := by
  have hM0 := hM
  obtain ⟨mk, m0, m1, m2, m4, m5, m8, m12, y1, l1, y2, l2, y3, l3, y4, l4, y5, l5, y6, l6, y7, l7⟩ := id hM
  have hr0 := hr
  have b1 := hI.1
  have ar := hI.ar h0 h1
  have mw := (hI.maxw (by omega)).2.1 i h0 h1
  have wa : wA i + 2 = 8 + 3 * i := by rw [wA_r (by omega)]; omega
  show JX _ _ _ _ _ _ _ _ _ _ _ [_, _, _, _, _] _ _
  refine x_aload_n dX8_supply_0 rfl ?_
  refine x_iload_n dX8_supply_1 rfl ?_
  refine c_RX8_117d dX8_supply_2 rfl (kX8_noReach hM0 hr0 ⟨by omega, by omega⟩ (by omega)) (by assumption) (Nat.le_of_ble_eq_true rfl) (Nat.le_of_ble_eq_true rfl) ⟨Nat.le_refl _, Nat.le_refl _⟩ ?_
  refine x_if_eq (tgt := 11) dX8_supply_5 (by decide) ⟨by split <;> omega, by split <;> omega⟩ (fun hb5 => ?_) (fun h => (h (by omega)).elim)
  refine x_iload_n dX8_supply_11 rfl ?_
  refine x_ldc (e := -1000000) dX8_supply_12 ct_RX8_120 (by decide) ?_
  refine x_ldc (e := 1000000) dX8_supply_14 ct_RX8_121 (by decide) ?_
  refine c_RX8_49d dX8_supply_16 rfl (kX8_in rv ⟨by omega, by omega⟩ ⟨by omega, by omega⟩) (Nat.le_of_ble_eq_true rfl) (Nat.le_of_ble_eq_true rfl) ⟨Nat.le_refl _, Nat.le_refl _⟩ ?_
  refine x_if_ne (tgt := 25) dX8_supply_19 (by decide) ⟨by split <;> omega, by split <;> omega⟩ (fun hb19 => ?_) (fun h => (h (by omega)).elim)
  refine x_iload_n dX8_supply_25 rfl ?_
  refine c_RX8_68d dX8_supply_26 rfl (kX8_waterAt ⟨by omega, by omega⟩) (Nat.le_of_ble_eq_true rfl) (Nat.le_of_ble_eq_true rfl) ⟨Nat.le_refl _, Nat.le_refl _⟩ ?_
  refine x_iconst dX8_supply_29 ?_
  refine x_iadd dX8_supply_30 ?_
  rw [wa]
  refine x_istore_n dX8_supply_31 (by decide) ?_
  show JX _ _ _ _ _ _ _ _ _ _ _ [_, _, _, _, _] _ _
  refine x_aload_n dX8_supply_32 rfl ?_
  refine gf_RX8_7 dX8_supply_33 rfl (by assumption) ?_
  rw [m0]
  refine x_iload_n dX8_supply_36 rfl ?_
  refine x_iald dX8_supply_37 (by assumption) ⟨by omega, by omega⟩ ?_
  rw [hr]
  refine x_iload_n dX8_supply_38 rfl ?_
  refine x_iadd dX8_supply_39 ?_
  refine x_if_lt (tgt := 56) dX8_supply_40 (by decide) ⟨by omega, by omega⟩ (fun h => absurd h (by omega)) (fun hb40 => ?_)
  refine x_aload_n dX8_supply_43 rfl ?_
  refine gf_RX8_7 dX8_supply_44 rfl (by assumption) ?_
  rw [m0]
  refine x_iload_n dX8_supply_47 rfl ?_
  refine x_iald dX8_supply_48 (by assumption) ⟨by omega, by omega⟩ ?_
  rw [hr]
  refine x_iload_n dX8_supply_49 rfl ?_
  refine x_iadd dX8_supply_50 ?_
  refine x_ldc (e := 100000000) dX8_supply_51 ct_RX8_122 (by decide) ?_
  refine x_ic_le (tgt := 63) dX8_supply_53 (by decide) ⟨by omega, by omega⟩ ⟨by omega, by omega⟩ (fun hb53 => ?_) (fun h => (h (by omega)).elim)
  refine x_aload_n dX8_supply_63 rfl ?_
  refine c_RX8_53p dX8_supply_64 rfl (kX8_begin hM0 hr0) (by assumption) (Nat.le_of_ble_eq_true rfl) (Nat.le_of_ble_eq_true rfl) ⟨Nat.le_refl _, Nat.le_refl _⟩ (fun D1 h1 => ?_)
  obtain ⟨hsc, bx⟩ := h1
  have hr1 : D1 (M + 1) = r := by rw [bx _ (by omega)]; exact hr
  have hm1 : jMh D1 M n hs := hm.frame (by rw [bx M (by omega)]) (bx _ (by omega))
  refine x_aload_n dX8_supply_67 rfl ?_
  refine gf_RX8_7 dX8_supply_68 rfl (by assumption) ?_
  rw [m0]
  refine x_iload_n dX8_supply_71 rfl ?_
  refine x_dup2 dX8_supply_72 (fun _ h => by cases h) (fun _ h => by cases h) ?_
  refine x_iald dX8_supply_73 (by assumption) ⟨by omega, by omega⟩ ?_
  rw [hr1]
  refine x_iload_n dX8_supply_74 rfl ?_
  refine x_iadd dX8_supply_75 ?_
  refine x_iast dX8_supply_76 (by assumption) ⟨by omega, by omega⟩ ?_
  refine x_aload_n dX8_supply_77 rfl ?_
  refine gf_RX8_7 dX8_supply_78 rfl (by assumption) ?_
  rw [m0]
  refine x_iconst dX8_supply_81 ?_
  refine x_dup2 dX8_supply_82 (fun _ h => by cases h) (fun _ h => by cases h) ?_
  refine x_iald dX8_supply_83 (by assumption) ⟨by omega, by omega⟩ ?_
  rw [jup_nk (show (4 : Int) ≠ 8 + 3 * i by omega), hr1]
  refine x_iload_n dX8_supply_84 rfl ?_
  refine x_iadd dX8_supply_85 ?_
  refine x_iast dX8_supply_86 (by assumption) ⟨by omega, by omega⟩ ?_
  have hr2 : (jup (jup D1 (M + 1) (8 + 3 * i) (r (8 + 3 * i) + v)) (M + 1) 4 (r 4 + v)) (M + 1) = rSupply i v r := by rw [jup_row, jup_row, hr1]; rfl
  have hX2 : ∀ x : Int, x ≠ M + 1 → (jup (jup D1 (M + 1) (8 + 3 * i) (r (8 + 3 * i) + v)) (M + 1) 4 (r 4 + v)) x = D1 x := fun x hx => by rw [jup_off hx, jup_off hx]
  have hI2 := hI.supply h0 h1 h hv
  refine x_aload_n dX8_supply_87 rfl ?_
  refine x_iconst dX8_supply_88 ?_
  refine c_RX8_110p dX8_supply_89 rfl (kX8_doneZ (t := t + 99) (z := (0, some (rSupply i v r), 0)) hM0 hm1 hsc (by omega) (jDo_put hr2 hX2) (zGood_s (by omega) (by omega) (by rw [show t + 99 + 1 = t + 100 by omega]; exact hI2))) (by assumption) (Nat.le_of_ble_eq_true rfl) (Nat.le_of_ble_eq_true rfl) ⟨Nat.le_refl _, Nat.le_refl _⟩ (fun w9 D9 h9 => ?_)
  have hw9 := h9.1
  subst hw9
  obtain ⟨-, q2, q3, q1, q4, q5⟩ := h9.from bx
  have hI4 := hI2.all
  have k4 := hI2.keep (j := 0) (by omega)
  have r20 : rSupply i v r 0 = r 0 := by unfold rSupply; rw [rup_ne (by omega), rup_ne (by omega)]
  have wp4 : rPl (sAll (rSupply i v r)) i := Or.inl ⟨by omega, by omega⟩
  refine x_istore dX8_supply_92 (by decide) ?_
  show JX _ _ _ _ _ _ _ _ _ _ _ [_, _, _, _, _] _ _
  refine x_aload_n dX8_supply_94 rfl ?_
  refine x_iload_n dX8_supply_95 rfl ?_
  refine c_RX8_126d dX8_supply_96 rfl (kX8_level hM0 q1 hI4 ht wp4) (by assumption) (Nat.le_of_ble_eq_true rfl) (Nat.le_of_ble_eq_true rfl) ⟨Nat.le_refl _, Nat.le_refl _⟩ ?_
  exact x_ireturn dX8_supply_99 rfl rfl ⟨Nat.le_refl _, Nat.le_refl _⟩ ⟨rfl, _, rfl, rfl, q2, q3, q1, q4, q5⟩
theorem kX8_supply {G : JG} {S : JS} {D : JD} {d : Nat} {M n t : Int} {hs : Int → Int → Int} {r : Int → Int}  {i v : Int} (hM : jMo S M) (hr : D (M + 1) = r) (hI : rIn t r) (ht : t + 100 ≤ 60000) (hm : jMh D M n hs) (ri : i32 i) (rv : i32 v) : JM G yX8_supply cX8_supply 5 (some .int) (d + 7) (0, 0) S D [.inr (.inr (some M)), .inl i, .inl v] (jrP S (jRf D M n hs r (zSupply i v r))) := by
  have ht1 : t + 1 ≤ 60000 := by omega
  unfold zSupply
  by_cases h : 0 ≤ i ∧ i < r 0
  · rw [if_pos h]
    by_cases hv : -1000000 ≤ v ∧ v ≤ 1000000
    · rw [if_pos hv]
      by_cases hw : 0 ≤ r (8 + 3 * i) + v ∧ r (8 + 3 * i) + v ≤ 100000000
      · rw [if_pos hw]; exact kX8_supply_y hM hr hI ht hm h.1 h.2 rv hv hw
      · rw [if_neg hw]
        by_cases hx : r (8 + 3 * i) + v < 0
        · exact kX8_supply_r1 hM hr hI ht1 hm h.1 h.2 rv hv hx
        · exact kX8_supply_r2 hM hr hI ht1 hm h.1 h.2 rv hv (by omega)
    · rw [if_neg hv]; exact kX8_supply_b hM hr hI ht1 hm h.1 h.2 rv hv
  · rw [if_neg h]; exact kX8_supply_u hM hr hI ht1 hm ri rv h
theorem kX8_addReach_b {G : JG} {S : JS} {D : JD} {d : Nat} {M n t : Int} {hs : Int → Int → Int} {r : Int → Int} {p f w : Int} (hM : jMo S M) (hr : D (M + 1) = r) (hI : rIn t r) (ht : t + 1 ≤ 60000) (hm : jMh D M n hs) (rp : i32 p) (rf : i32 f) (rw0 : i32 w) (hg : ¬ gReach p f w) : JM G yX8_addReach cX8_addReach 4 (some .int) (d + 7) (0, 0) S D [.inr (.inr (some M)), .inl p, .inl f, .inl w] (jrP S (jRf D M n hs r (-100000002, none, 0))) := by
  have hM0 := hM
  obtain ⟨mk, m0, m1, m2, m4, m5, m8, m12, y1, l1, y2, l2, y3, l3, y4, l4, y5, l5, y6, l6, y7, l7⟩ := id hM
  have hr0 := hr
  have b1 := hI.1
  show JX _ _ _ _ _ _ _ _ _ _ _ [_, _, _, _] _ _
  refine x_iload_n dX8_addReach_0 rfl ?_
  refine x_iload_n dX8_addReach_1 rfl ?_
  refine x_iload_n dX8_addReach_2 rfl ?_
  refine c_RX8_101d dX8_addReach_3 rfl (kX8_isReach rp rf rw0) (Nat.le_of_ble_eq_true rfl) (Nat.le_of_ble_eq_true rfl) ⟨Nat.le_refl _, Nat.le_refl _⟩ ?_
  refine x_if_ne (tgt := 12) dX8_addReach_6 (by decide) ⟨by split <;> omega, by split <;> omega⟩ (fun hz => (hz (if_neg hg)).elim) (fun hb6 => ?_)
  refine x_ldc (e := -100000002) dX8_addReach_9 ct_RX8_104 (by decide) ?_
  exact x_ireturn dX8_addReach_11 rfl rfl ⟨Nat.le_refl _, Nat.le_refl _⟩ ⟨rfl, _, rfl, jRf_none hr hm⟩
theorem kX8_addReach_f {G : JG} {S : JS} {D : JD} {d : Nat} {M n t : Int} {hs : Int → Int → Int} {r : Int → Int} {p f w : Int} (hM : jMo S M) (hr : D (M + 1) = r) (hI : rIn t r) (ht : t + 1 ≤ 60000) (hm : jMh D M n hs) (rp : i32 p) (rf : i32 f) (rw0 : i32 w) (hg : gReach p f w) (h0 : 0 < r 0) : JM G yX8_addReach cX8_addReach 4 (some .int) (d + 7) (0, 0) S D [.inr (.inr (some M)), .inl p, .inl f, .inl w] (jrP S (jRf D M n hs r (-100000004, none, 0))) := by
  have hM0 := hM
  obtain ⟨mk, m0, m1, m2, m4, m5, m8, m12, y1, l1, y2, l2, y3, l3, y4, l4, y5, l5, y6, l6, y7, l7⟩ := id hM
  have hr0 := hr
  have b1 := hI.1
  show JX _ _ _ _ _ _ _ _ _ _ _ [_, _, _, _] _ _
  refine x_iload_n dX8_addReach_0 rfl ?_
  refine x_iload_n dX8_addReach_1 rfl ?_
  refine x_iload_n dX8_addReach_2 rfl ?_
  refine c_RX8_101d dX8_addReach_3 rfl (kX8_isReach rp rf rw0) (Nat.le_of_ble_eq_true rfl) (Nat.le_of_ble_eq_true rfl) ⟨Nat.le_refl _, Nat.le_refl _⟩ ?_
  refine x_if_ne (tgt := 12) dX8_addReach_6 (by decide) ⟨by split <;> omega, by split <;> omega⟩ (fun hb6 => ?_) (fun hz => (hz (by rw [if_pos hg]; decide)).elim)
  refine x_aload_n dX8_addReach_12 rfl ?_
  refine gf_RX8_7 dX8_addReach_13 rfl (by assumption) ?_
  rw [m0]
  refine x_iconst dX8_addReach_16 ?_
  refine x_iald dX8_addReach_17 (by assumption) ⟨by omega, by omega⟩ ?_
  rw [hr]
  refine x_if_le (tgt := 24) dX8_addReach_18 (by decide) ⟨by omega, by omega⟩ (fun h => absurd h (by omega)) (fun hb18 => ?_)
  refine x_ldc (e := -100000004) dX8_addReach_21 ct_RX8_105 (by decide) ?_
  exact x_ireturn dX8_addReach_23 rfl rfl ⟨Nat.le_refl _, Nat.le_refl _⟩ ⟨rfl, _, rfl, jRf_none hr hm⟩
theorem kX8_addReach_y {G : JG} {S : JS} {D : JD} {d : Nat} {M n t : Int} {hs : Int → Int → Int} {r : Int → Int} {p f w : Int} (hM : jMo S M) (hr : D (M + 1) = r) (hI : rIn t r) (ht : t + 1 ≤ 60000) (hm : jMh D M n hs) (rp : i32 p) (rf : i32 f) (rw0 : i32 w) (hg : gReach p f w) (h0 : ¬ 0 < r 0) (t0 : 0 ≤ t) : JM G yX8_addReach cX8_addReach 4 (some .int) (d + 7) (0, 0) S D [.inr (.inr (some M)), .inl p, .inl f, .inl w] (jrP S (jRf D M n hs r (0, some (rPutR p f w r), 0))) := by
  have hM0 := hM
  obtain ⟨mk, m0, m1, m2, m4, m5, m8, m12, y1, l1, y2, l2, y3, l3, y4, l4, y5, l5, y6, l6, y7, l7⟩ := id hM
  have hr0 := hr
  have b1 := hI.1
  show JX _ _ _ _ _ _ _ _ _ _ _ [_, _, _, _] _ _
  refine x_iload_n dX8_addReach_0 rfl ?_
  refine x_iload_n dX8_addReach_1 rfl ?_
  refine x_iload_n dX8_addReach_2 rfl ?_
  refine c_RX8_101d dX8_addReach_3 rfl (kX8_isReach rp rf rw0) (Nat.le_of_ble_eq_true rfl) (Nat.le_of_ble_eq_true rfl) ⟨Nat.le_refl _, Nat.le_refl _⟩ ?_
  refine x_if_ne (tgt := 12) dX8_addReach_6 (by decide) ⟨by split <;> omega, by split <;> omega⟩ (fun hb6 => ?_) (fun hz => (hz (by rw [if_pos hg]; decide)).elim)
  refine x_aload_n dX8_addReach_12 rfl ?_
  refine gf_RX8_7 dX8_addReach_13 rfl (by assumption) ?_
  rw [m0]
  refine x_iconst dX8_addReach_16 ?_
  refine x_iald dX8_addReach_17 (by assumption) ⟨by omega, by omega⟩ ?_
  rw [hr]
  refine x_if_le (tgt := 24) dX8_addReach_18 (by decide) ⟨by omega, by omega⟩ (fun hb18 => ?_) (fun h => (h (by omega)).elim)
  refine x_aload_n dX8_addReach_24 rfl ?_
  refine c_RX8_53p dX8_addReach_25 rfl (kX8_begin hM0 hr0) (by assumption) (Nat.le_of_ble_eq_true rfl) (Nat.le_of_ble_eq_true rfl) ⟨Nat.le_refl _, Nat.le_refl _⟩ (fun D1 h1 => ?_)
  obtain ⟨hsc, bx⟩ := h1
  have hr1 : D1 (M + 1) = r := by rw [bx _ (by omega)]; exact hr
  have hm1 : jMh D1 M n hs := hm.frame (by rw [bx M (by omega)]) (bx _ (by omega))
  refine x_aload_n dX8_addReach_28 rfl ?_
  refine x_iload_n dX8_addReach_29 rfl ?_
  refine x_iload_n dX8_addReach_30 rfl ?_
  refine x_iload_n dX8_addReach_31 rfl ?_
  refine c_RX8_106p dX8_addReach_32 rfl (kX8_putReach hM0 hr1 (by omega) (by omega)) (by assumption) (Nat.le_of_ble_eq_true rfl) (Nat.le_of_ble_eq_true rfl) ⟨Nat.le_refl _, Nat.le_refl _⟩ (fun D2 h2 => ?_)
  obtain ⟨g2, x2⟩ := h2
  refine x_aload_n dX8_addReach_35 rfl ?_
  refine x_iconst dX8_addReach_36 ?_
  refine c_RX8_110p dX8_addReach_37 rfl (kX8_doneZ (z := (0, some (rPutR p f w r), 0)) hM0 hm1 hsc ht (jDo_put g2 x2) (zGood_s (by omega) (by omega) ((hI.addR t0 h0 hg).mono (by omega)))) (by assumption) (Nat.le_of_ble_eq_true rfl) (Nat.le_of_ble_eq_true rfl) ⟨Nat.le_refl _, Nat.le_refl _⟩ (fun w9 D9 h9 => ?_)
  have hw9 := h9.1
  subst hw9
  exact x_ireturn dX8_addReach_40 rfl rfl ⟨Nat.le_refl _, Nat.le_refl _⟩ ⟨rfl, _, rfl, h9.from bx⟩
theorem kX8_addReach {G : JG} {S : JS} {D : JD} {d : Nat} {M n t : Int} {hs : Int → Int → Int} {r : Int → Int}  {p f w : Int} (hM : jMo S M) (hr : D (M + 1) = r) (hI : rIn t r) (ht : t + 1 ≤ 60000) (hm : jMh D M n hs)  (rp : i32 p) (rf : i32 f) (rw0 : i32 w) (t0 : 0 ≤ t) : JM G yX8_addReach cX8_addReach 4 (some .int) (d + 7) (0, 0) S D [.inr (.inr (some M)), .inl p, .inl f, .inl w] (jrP S (jRf D M n hs r (zAddReach p f w r))) := by
  have ht1 : t + 1 ≤ 60000 := by omega
  unfold zAddReach
  by_cases hg : gReach p f w
  · rw [if_pos hg]
    by_cases h0 : 0 < r 0
    · rw [if_pos h0]; exact kX8_addReach_f hM hr hI ht hm rp rf rw0 hg h0
    · rw [if_neg h0]; exact kX8_addReach_y hM hr hI ht hm rp rf rw0 hg h0 t0
  · rw [if_neg hg]; exact kX8_addReach_b hM hr hI ht hm rp rf rw0 hg
theorem addC_loop {G : JG} {S : JS} {D0 : JD} {d : Nat} {M p al l f p2 f2 w2 n1 : Int} {r : Int → Int} {Q : Option JV → JS → JD → Prop} (hM : jMo S M) (p0 : 0 ≤ p) (p1 : p + 11 ≤ 213)
    (K : ∀ D : JD, D (M + 1) = rZc r p 11 → (∀ x : Int, x ≠ M + 1 → D x = D0 x) → JX G yX8_addChamber cX8_addChamber 10 (some .int) (d + 7) (0, 0) (0, 0) S D 120 [some (.inr (.inr (some M))), some (.inl al), some (.inl l), some (.inl f), some (.inl p2), some (.inl f2), some (.inl w2), some (.inl n1), some (.inl p), some (.inl 11)] [] Q) : ∀ (n i : Nat) (D : JD), (i : Int) + n = 11 → D (M + 1) = rZc r p i → (∀ x : Int, x ≠ M + 1 → D x = D0 x) →
    JX G yX8_addChamber cX8_addChamber 10 (some .int) (d + 7) (0, 0) (0, 0) S D 96 [some (.inr (.inr (some M))), some (.inl al), some (.inl l), some (.inl f), some (.inl p2), some (.inl f2), some (.inl w2), some (.inl n1), some (.inl p), some (.inl i)] [] Q := by
  intro n
  induction n with
  | zero =>
    intro i D hn hr hX
    obtain ⟨mk, m0, m1, m2, m4, m5, m8, m12, y1, l1, y2, l2, y3, l3, y4, l4, y5, l5, y6, l6, y7, l7⟩ := id hM
    have ei : i = 11 := by omega
    subst ei
    refine x_iload dX8_addChamber_96 rfl ?_
    refine x_bipush dX8_addChamber_98 (by decide) ?_
    refine x_ic_ge (tgt := 120) dX8_addChamber_100 (by decide) ⟨by omega, by omega⟩ ⟨by omega, by omega⟩ (fun hb100 => ?_) (fun h => (h (by omega)).elim)
    exact K D hr hX
  | succ n ih =>
    intro i D hn hr hX
    obtain ⟨mk, m0, m1, m2, m4, m5, m8, m12, y1, l1, y2, l2, y3, l3, y4, l4, y5, l5, y6, l6, y7, l7⟩ := id hM
    refine x_iload dX8_addChamber_96 rfl ?_
    refine x_bipush dX8_addChamber_98 (by decide) ?_
    refine x_ic_ge (tgt := 120) dX8_addChamber_100 (by decide) ⟨by omega, by omega⟩ ⟨by omega, by omega⟩ (fun h => absurd h (by omega)) (fun hb100 => ?_)
    refine x_aload_n dX8_addChamber_103 rfl ?_
    refine gf_RX8_7 dX8_addChamber_104 rfl (by assumption) ?_
    rw [m0]
    refine x_iload dX8_addChamber_107 rfl ?_
    refine x_iload dX8_addChamber_109 rfl ?_
    refine x_iadd dX8_addChamber_111 ?_
    refine x_iconst dX8_addChamber_112 ?_
    refine x_iast dX8_addChamber_113 (by assumption) ⟨by omega, by omega⟩ ?_
    refine x_iinc dX8_addChamber_114 rfl (by decide) ?_
    show JX _ _ _ _ _ _ _ _ _ _ _ [_, _, _, _, _, _, _, _, _, _] _ _
    refine x_goto (tgt := 96) dX8_addChamber_117 (by decide) ?_
    exact ih (i + 1) _ (by omega) (by rw [jup_row, hr]; exact rZc_step (by omega)) (fun x hx => by rw [jup_off hx]; exact hX x hx)
theorem kX8_addChamber_b {G : JG} {S : JS} {D : JD} {d : Nat} {M n t : Int} {hs : Int → Int → Int} {r : Int → Int} {al l f p2 f2 w2 : Int} (hM : jMo S M) (hr : D (M + 1) = r) (hI : rIn t r) (ht : t + 1 ≤ 60000) (hm : jMh D M n hs) (ra : i32 al) (rl : i32 l) (rf : i32 f) (rp2 : i32 p2) (rf2 : i32 f2) (rw2 : i32 w2) (hg : ¬ (gCham al l f ∧ gReach p2 f2 w2)) : JM G yX8_addChamber cX8_addChamber 10 (some .int) (d + 7) (0, 0) S D [.inr (.inr (some M)), .inl al, .inl l, .inl f, .inl p2, .inl f2, .inl w2] (jrP S (jRf D M n hs r (-100000002, none, 0))) := by
  have hM0 := hM
  obtain ⟨mk, m0, m1, m2, m4, m5, m8, m12, y1, l1, y2, l2, y3, l3, y4, l4, y5, l5, y6, l6, y7, l7⟩ := id hM
  have hr0 := hr
  have b1 := hI.1
  show JX _ _ _ _ _ _ _ _ _ _ _ [_, _, _, _, _, _, _, _, _, _] _ _
  refine x_iload_n dX8_addChamber_0 rfl ?_
  refine x_bipush dX8_addChamber_1 (by decide) ?_
  refine x_ldc (e := 100000) dX8_addChamber_3 ct_RX8_99 (by decide) ?_
  refine c_RX8_49d dX8_addChamber_5 rfl (kX8_in ⟨by omega, by omega⟩ ⟨by omega, by omega⟩ ⟨by omega, by omega⟩) (Nat.le_of_ble_eq_true rfl) (Nat.le_of_ble_eq_true rfl) ⟨Nat.le_refl _, Nat.le_refl _⟩ ?_
  refine x_if_eq (tgt := 46) dX8_addChamber_8 (by decide) ⟨by split <;> omega, by split <;> omega⟩ (fun hb8 => ?_) (fun hb8 => ?_)
  · refine x_ldc (e := -100000002) dX8_addChamber_46 ct_RX8_104 (by decide) ?_
    exact x_ireturn dX8_addChamber_48 rfl rfl ⟨Nat.le_refl _, Nat.le_refl _⟩ ⟨rfl, _, rfl, jRf_none hr hm⟩
  · refine x_iload_n dX8_addChamber_11 rfl ?_
    refine x_bipush dX8_addChamber_12 (by decide) ?_
    refine x_sipush dX8_addChamber_14 (by decide) ?_
    refine c_RX8_49d dX8_addChamber_17 rfl (kX8_in rl ⟨by omega, by omega⟩ ⟨by omega, by omega⟩) (Nat.le_of_ble_eq_true rfl) (Nat.le_of_ble_eq_true rfl) ⟨Nat.le_refl _, Nat.le_refl _⟩ ?_
    refine x_if_eq (tgt := 46) dX8_addChamber_20 (by decide) ⟨by split <;> omega, by split <;> omega⟩ (fun hb20 => ?_) (fun hb20 => ?_)
    · refine x_ldc (e := -100000002) dX8_addChamber_46 ct_RX8_104 (by decide) ?_
      exact x_ireturn dX8_addChamber_48 rfl rfl ⟨Nat.le_refl _, Nat.le_refl _⟩ ⟨rfl, _, rfl, jRf_none hr hm⟩
    · refine x_iload_n dX8_addChamber_23 rfl ?_
      refine x_iconst dX8_addChamber_24 ?_
      refine x_sipush dX8_addChamber_25 (by decide) ?_
      refine c_RX8_49d dX8_addChamber_28 rfl (kX8_in rf ⟨by omega, by omega⟩ ⟨by omega, by omega⟩) (Nat.le_of_ble_eq_true rfl) (Nat.le_of_ble_eq_true rfl) ⟨Nat.le_refl _, Nat.le_refl _⟩ ?_
      refine x_if_eq (tgt := 46) dX8_addChamber_31 (by decide) ⟨by split <;> omega, by split <;> omega⟩ (fun hb31 => ?_) (fun hb31 => ?_)
      · refine x_ldc (e := -100000002) dX8_addChamber_46 ct_RX8_104 (by decide) ?_
        exact x_ireturn dX8_addChamber_48 rfl rfl ⟨Nat.le_refl _, Nat.le_refl _⟩ ⟨rfl, _, rfl, jRf_none hr hm⟩
      · refine x_iload dX8_addChamber_34 rfl ?_
        refine x_iload dX8_addChamber_36 rfl ?_
        refine x_iload dX8_addChamber_38 rfl ?_
        refine c_RX8_101d dX8_addChamber_40 rfl (kX8_isReach rp2 rf2 rw2) (Nat.le_of_ble_eq_true rfl) (Nat.le_of_ble_eq_true rfl) ⟨Nat.le_refl _, Nat.le_refl _⟩ ?_
        refine x_if_ne (tgt := 49) dX8_addChamber_43 (by decide) ⟨by split <;> omega, by split <;> omega⟩ (fun hz => (hg ⟨by unfold gCham; omega, Classical.byContradiction (fun q => hz (if_neg q))⟩).elim) (fun hb43 => ?_)
        refine x_ldc (e := -100000002) dX8_addChamber_46 ct_RX8_104 (by decide) ?_
        exact x_ireturn dX8_addChamber_48 rfl rfl ⟨Nat.le_refl _, Nat.le_refl _⟩ ⟨rfl, _, rfl, jRf_none hr hm⟩
theorem kX8_addChamber_f1 {G : JG} {S : JS} {D : JD} {d : Nat} {M n t : Int} {hs : Int → Int → Int} {r : Int → Int} {al l f p2 f2 w2 : Int} (hM : jMo S M) (hr : D (M + 1) = r) (hI : rIn t r) (ht : t + 1 ≤ 60000) (hm : jMh D M n hs) (ra : i32 al) (rl : i32 l) (rf : i32 f) (rp2 : i32 p2) (rf2 : i32 f2) (rw2 : i32 w2) (hc : gCham al l f) (hg : gReach p2 f2 w2) (h4 : r 1 = 4) : JM G yX8_addChamber cX8_addChamber 10 (some .int) (d + 7) (0, 0) S D [.inr (.inr (some M)), .inl al, .inl l, .inl f, .inl p2, .inl f2, .inl w2] (jrP S (jRf D M n hs r (-100000004, none, 0))) := by
  have hM0 := hM
  obtain ⟨mk, m0, m1, m2, m4, m5, m8, m12, y1, l1, y2, l2, y3, l3, y4, l4, y5, l5, y6, l6, y7, l7⟩ := id hM
  have hr0 := hr
  have b1 := hI.1
  have hc0 := hc
  unfold gCham at hc0
  show JX _ _ _ _ _ _ _ _ _ _ _ [_, _, _, _, _, _, _, _, _, _] _ _
  refine x_iload_n dX8_addChamber_0 rfl ?_
  refine x_bipush dX8_addChamber_1 (by decide) ?_
  refine x_ldc (e := 100000) dX8_addChamber_3 ct_RX8_99 (by decide) ?_
  refine c_RX8_49d dX8_addChamber_5 rfl (kX8_in ⟨by omega, by omega⟩ ⟨by omega, by omega⟩ ⟨by omega, by omega⟩) (Nat.le_of_ble_eq_true rfl) (Nat.le_of_ble_eq_true rfl) ⟨Nat.le_refl _, Nat.le_refl _⟩ ?_
  refine x_if_eq (tgt := 46) dX8_addChamber_8 (by decide) ⟨by split <;> omega, by split <;> omega⟩ (fun h => absurd h (by omega)) (fun hb8 => ?_)
  refine x_iload_n dX8_addChamber_11 rfl ?_
  refine x_bipush dX8_addChamber_12 (by decide) ?_
  refine x_sipush dX8_addChamber_14 (by decide) ?_
  refine c_RX8_49d dX8_addChamber_17 rfl (kX8_in rl ⟨by omega, by omega⟩ ⟨by omega, by omega⟩) (Nat.le_of_ble_eq_true rfl) (Nat.le_of_ble_eq_true rfl) ⟨Nat.le_refl _, Nat.le_refl _⟩ ?_
  refine x_if_eq (tgt := 46) dX8_addChamber_20 (by decide) ⟨by split <;> omega, by split <;> omega⟩ (fun h => absurd h (by omega)) (fun hb20 => ?_)
  refine x_iload_n dX8_addChamber_23 rfl ?_
  refine x_iconst dX8_addChamber_24 ?_
  refine x_sipush dX8_addChamber_25 (by decide) ?_
  refine c_RX8_49d dX8_addChamber_28 rfl (kX8_in rf ⟨by omega, by omega⟩ ⟨by omega, by omega⟩) (Nat.le_of_ble_eq_true rfl) (Nat.le_of_ble_eq_true rfl) ⟨Nat.le_refl _, Nat.le_refl _⟩ ?_
  refine x_if_eq (tgt := 46) dX8_addChamber_31 (by decide) ⟨by split <;> omega, by split <;> omega⟩ (fun h => absurd h (by omega)) (fun hb31 => ?_)
  refine x_iload dX8_addChamber_34 rfl ?_
  refine x_iload dX8_addChamber_36 rfl ?_
  refine x_iload dX8_addChamber_38 rfl ?_
  refine c_RX8_101d dX8_addChamber_40 rfl (kX8_isReach rp2 rf2 rw2) (Nat.le_of_ble_eq_true rfl) (Nat.le_of_ble_eq_true rfl) ⟨Nat.le_refl _, Nat.le_refl _⟩ ?_
  refine x_if_ne (tgt := 49) dX8_addChamber_43 (by decide) ⟨by split <;> omega, by split <;> omega⟩ (fun hb43 => ?_) (fun hz => (hz (by rw [if_pos hg]; decide)).elim)
  refine x_aload_n dX8_addChamber_49 rfl ?_
  refine gf_RX8_7 dX8_addChamber_50 rfl (by assumption) ?_
  rw [m0]
  refine x_iconst dX8_addChamber_53 ?_
  refine x_iald dX8_addChamber_54 (by assumption) ⟨by omega, by omega⟩ ?_
  rw [hr]
  refine x_iconst dX8_addChamber_55 ?_
  refine x_ic_eq (tgt := 68) dX8_addChamber_56 (by decide) ⟨by omega, by omega⟩ ⟨by omega, by omega⟩ (fun hb56 => ?_) (fun h => (h (by omega)).elim)
  refine x_ldc (e := -100000004) dX8_addChamber_68 ct_RX8_105 (by decide) ?_
  exact x_ireturn dX8_addChamber_70 rfl rfl ⟨Nat.le_refl _, Nat.le_refl _⟩ ⟨rfl, _, rfl, jRf_none hr hm⟩
theorem kX8_addChamber_f2 {G : JG} {S : JS} {D : JD} {d : Nat} {M n t : Int} {hs : Int → Int → Int} {r : Int → Int} {al l f p2 f2 w2 : Int} (hM : jMo S M) (hr : D (M + 1) = r) (hI : rIn t r) (ht : t + 1 ≤ 60000) (hm : jMh D M n hs) (ra : i32 al) (rl : i32 l) (rf : i32 f) (rp2 : i32 p2) (rf2 : i32 f2) (rw2 : i32 w2) (hc : gCham al l f) (hg : gReach p2 f2 w2) (h4 : ¬ r 1 = 4) (h0 : r 0 = 0) : JM G yX8_addChamber cX8_addChamber 10 (some .int) (d + 7) (0, 0) S D [.inr (.inr (some M)), .inl al, .inl l, .inl f, .inl p2, .inl f2, .inl w2] (jrP S (jRf D M n hs r (-100000004, none, 0))) := by
  have hM0 := hM
  obtain ⟨mk, m0, m1, m2, m4, m5, m8, m12, y1, l1, y2, l2, y3, l3, y4, l4, y5, l5, y6, l6, y7, l7⟩ := id hM
  have hr0 := hr
  have b1 := hI.1
  have hc0 := hc
  unfold gCham at hc0
  show JX _ _ _ _ _ _ _ _ _ _ _ [_, _, _, _, _, _, _, _, _, _] _ _
  refine x_iload_n dX8_addChamber_0 rfl ?_
  refine x_bipush dX8_addChamber_1 (by decide) ?_
  refine x_ldc (e := 100000) dX8_addChamber_3 ct_RX8_99 (by decide) ?_
  refine c_RX8_49d dX8_addChamber_5 rfl (kX8_in ⟨by omega, by omega⟩ ⟨by omega, by omega⟩ ⟨by omega, by omega⟩) (Nat.le_of_ble_eq_true rfl) (Nat.le_of_ble_eq_true rfl) ⟨Nat.le_refl _, Nat.le_refl _⟩ ?_
  refine x_if_eq (tgt := 46) dX8_addChamber_8 (by decide) ⟨by split <;> omega, by split <;> omega⟩ (fun h => absurd h (by omega)) (fun hb8 => ?_)
  refine x_iload_n dX8_addChamber_11 rfl ?_
  refine x_bipush dX8_addChamber_12 (by decide) ?_
  refine x_sipush dX8_addChamber_14 (by decide) ?_
  refine c_RX8_49d dX8_addChamber_17 rfl (kX8_in rl ⟨by omega, by omega⟩ ⟨by omega, by omega⟩) (Nat.le_of_ble_eq_true rfl) (Nat.le_of_ble_eq_true rfl) ⟨Nat.le_refl _, Nat.le_refl _⟩ ?_
  refine x_if_eq (tgt := 46) dX8_addChamber_20 (by decide) ⟨by split <;> omega, by split <;> omega⟩ (fun h => absurd h (by omega)) (fun hb20 => ?_)
  refine x_iload_n dX8_addChamber_23 rfl ?_
  refine x_iconst dX8_addChamber_24 ?_
  refine x_sipush dX8_addChamber_25 (by decide) ?_
  refine c_RX8_49d dX8_addChamber_28 rfl (kX8_in rf ⟨by omega, by omega⟩ ⟨by omega, by omega⟩) (Nat.le_of_ble_eq_true rfl) (Nat.le_of_ble_eq_true rfl) ⟨Nat.le_refl _, Nat.le_refl _⟩ ?_
  refine x_if_eq (tgt := 46) dX8_addChamber_31 (by decide) ⟨by split <;> omega, by split <;> omega⟩ (fun h => absurd h (by omega)) (fun hb31 => ?_)
  refine x_iload dX8_addChamber_34 rfl ?_
  refine x_iload dX8_addChamber_36 rfl ?_
  refine x_iload dX8_addChamber_38 rfl ?_
  refine c_RX8_101d dX8_addChamber_40 rfl (kX8_isReach rp2 rf2 rw2) (Nat.le_of_ble_eq_true rfl) (Nat.le_of_ble_eq_true rfl) ⟨Nat.le_refl _, Nat.le_refl _⟩ ?_
  refine x_if_ne (tgt := 49) dX8_addChamber_43 (by decide) ⟨by split <;> omega, by split <;> omega⟩ (fun hb43 => ?_) (fun hz => (hz (by rw [if_pos hg]; decide)).elim)
  refine x_aload_n dX8_addChamber_49 rfl ?_
  refine gf_RX8_7 dX8_addChamber_50 rfl (by assumption) ?_
  rw [m0]
  refine x_iconst dX8_addChamber_53 ?_
  refine x_iald dX8_addChamber_54 (by assumption) ⟨by omega, by omega⟩ ?_
  rw [hr]
  refine x_iconst dX8_addChamber_55 ?_
  refine x_ic_eq (tgt := 68) dX8_addChamber_56 (by decide) ⟨by omega, by omega⟩ ⟨by omega, by omega⟩ (fun h => absurd h (by omega)) (fun hb56 => ?_)
  refine x_aload_n dX8_addChamber_59 rfl ?_
  refine gf_RX8_7 dX8_addChamber_60 rfl (by assumption) ?_
  rw [m0]
  refine x_iconst dX8_addChamber_63 ?_
  refine x_iald dX8_addChamber_64 (by assumption) ⟨by omega, by omega⟩ ?_
  rw [hr]
  refine x_if_ne (tgt := 71) dX8_addChamber_65 (by decide) ⟨by omega, by omega⟩ (fun h => absurd h (by omega)) (fun hb65 => ?_)
  refine x_ldc (e := -100000004) dX8_addChamber_68 ct_RX8_105 (by decide) ?_
  exact x_ireturn dX8_addChamber_70 rfl rfl ⟨Nat.le_refl _, Nat.le_refl _⟩ ⟨rfl, _, rfl, jRf_none hr hm⟩
theorem kX8_addChamber_y {G : JG} {S : JS} {D : JD} {d : Nat} {M n t : Int} {hs : Int → Int → Int} {r : Int → Int} {al l f p2 f2 w2 : Int} (hM : jMo S M) (hr : D (M + 1) = r) (hI : rIn t r) (ht : t + 1 ≤ 60000) (hm : jMh D M n hs) (ra : i32 al) (rl : i32 l) (rf : i32 f) (rp2 : i32 p2) (rf2 : i32 f2) (rw2 : i32 w2) (hc : gCham al l f) (hg : gReach p2 f2 w2) (h4 : ¬ r 1 = 4) (h0 : ¬ r 0 = 0) (t0 : 0 ≤ t) : JM G yX8_addChamber cX8_addChamber 10 (some .int) (d + 7) (0, 0) S D [.inr (.inr (some M)), .inl al, .inl l, .inl f, .inl p2, .inl f2, .inl w2] (jrP S (jRf D M n hs r (r 1, some (rAddC al l f p2 f2 w2 r), 0))) := by
  have hM0 := hM
  obtain ⟨mk, m0, m1, m2, m4, m5, m8, m12, y1, l1, y2, l2, y3, l3, y4, l4, y5, l5, y6, l6, y7, l7⟩ := id hM
  have hr0 := hr
  have b1 := hI.1
  have hc0 := hc
  unfold gCham at hc0
  show JX _ _ _ _ _ _ _ _ _ _ _ [_, _, _, _, _, _, _, _, _, _] _ _
  refine x_iload_n dX8_addChamber_0 rfl ?_
  refine x_bipush dX8_addChamber_1 (by decide) ?_
  refine x_ldc (e := 100000) dX8_addChamber_3 ct_RX8_99 (by decide) ?_
  refine c_RX8_49d dX8_addChamber_5 rfl (kX8_in ⟨by omega, by omega⟩ ⟨by omega, by omega⟩ ⟨by omega, by omega⟩) (Nat.le_of_ble_eq_true rfl) (Nat.le_of_ble_eq_true rfl) ⟨Nat.le_refl _, Nat.le_refl _⟩ ?_
  refine x_if_eq (tgt := 46) dX8_addChamber_8 (by decide) ⟨by split <;> omega, by split <;> omega⟩ (fun h => absurd h (by omega)) (fun hb8 => ?_)
  refine x_iload_n dX8_addChamber_11 rfl ?_
  refine x_bipush dX8_addChamber_12 (by decide) ?_
  refine x_sipush dX8_addChamber_14 (by decide) ?_
  refine c_RX8_49d dX8_addChamber_17 rfl (kX8_in rl ⟨by omega, by omega⟩ ⟨by omega, by omega⟩) (Nat.le_of_ble_eq_true rfl) (Nat.le_of_ble_eq_true rfl) ⟨Nat.le_refl _, Nat.le_refl _⟩ ?_
  refine x_if_eq (tgt := 46) dX8_addChamber_20 (by decide) ⟨by split <;> omega, by split <;> omega⟩ (fun h => absurd h (by omega)) (fun hb20 => ?_)
  refine x_iload_n dX8_addChamber_23 rfl ?_
  refine x_iconst dX8_addChamber_24 ?_
  refine x_sipush dX8_addChamber_25 (by decide) ?_
  refine c_RX8_49d dX8_addChamber_28 rfl (kX8_in rf ⟨by omega, by omega⟩ ⟨by omega, by omega⟩) (Nat.le_of_ble_eq_true rfl) (Nat.le_of_ble_eq_true rfl) ⟨Nat.le_refl _, Nat.le_refl _⟩ ?_
  refine x_if_eq (tgt := 46) dX8_addChamber_31 (by decide) ⟨by split <;> omega, by split <;> omega⟩ (fun h => absurd h (by omega)) (fun hb31 => ?_)
  refine x_iload dX8_addChamber_34 rfl ?_
  refine x_iload dX8_addChamber_36 rfl ?_
  refine x_iload dX8_addChamber_38 rfl ?_
  refine c_RX8_101d dX8_addChamber_40 rfl (kX8_isReach rp2 rf2 rw2) (Nat.le_of_ble_eq_true rfl) (Nat.le_of_ble_eq_true rfl) ⟨Nat.le_refl _, Nat.le_refl _⟩ ?_
  refine x_if_ne (tgt := 49) dX8_addChamber_43 (by decide) ⟨by split <;> omega, by split <;> omega⟩ (fun hb43 => ?_) (fun hz => (hz (by rw [if_pos hg]; decide)).elim)
  refine x_aload_n dX8_addChamber_49 rfl ?_
  refine gf_RX8_7 dX8_addChamber_50 rfl (by assumption) ?_
  rw [m0]
  refine x_iconst dX8_addChamber_53 ?_
  refine x_iald dX8_addChamber_54 (by assumption) ⟨by omega, by omega⟩ ?_
  rw [hr]
  refine x_iconst dX8_addChamber_55 ?_
  refine x_ic_eq (tgt := 68) dX8_addChamber_56 (by decide) ⟨by omega, by omega⟩ ⟨by omega, by omega⟩ (fun h => absurd h (by omega)) (fun hb56 => ?_)
  refine x_aload_n dX8_addChamber_59 rfl ?_
  refine gf_RX8_7 dX8_addChamber_60 rfl (by assumption) ?_
  rw [m0]
  refine x_iconst dX8_addChamber_63 ?_
  refine x_iald dX8_addChamber_64 (by assumption) ⟨by omega, by omega⟩ ?_
  rw [hr]
  refine x_if_ne (tgt := 71) dX8_addChamber_65 (by decide) ⟨by omega, by omega⟩ (fun hb65 => ?_) (fun h => (h (by omega)).elim)
  refine x_aload_n dX8_addChamber_71 rfl ?_
  refine c_RX8_53p dX8_addChamber_72 rfl (kX8_begin hM0 hr0) (by assumption) (Nat.le_of_ble_eq_true rfl) (Nat.le_of_ble_eq_true rfl) ⟨Nat.le_refl _, Nat.le_refl _⟩ (fun D1 h1 => ?_)
  obtain ⟨hsc, bx⟩ := h1
  have hr1 : D1 (M + 1) = r := by rw [bx _ (by omega)]; exact hr
  have hm1 : jMh D1 M n hs := hm.frame (by rw [bx M (by omega)]) (bx _ (by omega))
  refine x_aload_n dX8_addChamber_75 rfl ?_
  refine gf_RX8_7 dX8_addChamber_76 rfl (by assumption) ?_
  rw [m0]
  refine x_iconst dX8_addChamber_79 ?_
  refine x_iald dX8_addChamber_80 (by assumption) ⟨by omega, by omega⟩ ?_
  rw [hr1]
  refine x_istore dX8_addChamber_81 (by decide) ?_
  show JX _ _ _ _ _ _ _ _ _ _ _ [_, _, _, _, _, _, _, _, _, _] _ _
  refine x_bipush dX8_addChamber_83 (by decide) ?_
  refine x_bipush dX8_addChamber_85 (by decide) ?_
  refine x_iload dX8_addChamber_87 rfl ?_
  refine x_imul dX8_addChamber_89 ?_
  refine x_iadd dX8_addChamber_90 ?_
  refine x_istore dX8_addChamber_91 (by decide) ?_
  show JX _ _ _ _ _ _ _ _ _ _ _ [_, _, _, _, _, _, _, _, _, _] _ _
  refine x_iconst dX8_addChamber_93 ?_
  refine x_istore dX8_addChamber_94 (by decide) ?_
  show JX _ _ _ _ _ _ _ _ _ _ _ [_, _, _, _, _, _, _, _, _, _] _ _
  refine addC_loop (r := r) (D0 := D1) hM0 (by omega) (by omega) (fun D8 e8 f8 => ?_) 11 0 D1 (by omega) (by rw [hr1]; exact rZc_0.symm) (fun _ _ => rfl)
  refine x_aload_n dX8_addChamber_120 rfl ?_
  refine gf_RX8_7 dX8_addChamber_121 rfl (by assumption) ?_
  rw [m0]
  refine x_iload dX8_addChamber_124 rfl ?_
  refine x_iconst dX8_addChamber_126 ?_
  refine x_iadd dX8_addChamber_127 ?_
  rw [show 21 + 11 * r 1 + 0 = 21 + 11 * r 1 by omega]
  refine x_iload_n dX8_addChamber_128 rfl ?_
  refine x_iast dX8_addChamber_129 (by assumption) ⟨by omega, by omega⟩ ?_
  refine x_aload_n dX8_addChamber_130 rfl ?_
  refine gf_RX8_7 dX8_addChamber_131 rfl (by assumption) ?_
  rw [m0]
  refine x_iload dX8_addChamber_134 rfl ?_
  refine x_iconst dX8_addChamber_136 ?_
  refine x_iadd dX8_addChamber_137 ?_
  rw [show 21 + 11 * r 1 + 1 = 22 + 11 * r 1 by omega]
  refine x_iload_n dX8_addChamber_138 rfl ?_
  refine x_iast dX8_addChamber_139 (by assumption) ⟨by omega, by omega⟩ ?_
  refine x_aload_n dX8_addChamber_140 rfl ?_
  refine gf_RX8_7 dX8_addChamber_141 rfl (by assumption) ?_
  rw [m0]
  refine x_iload dX8_addChamber_144 rfl ?_
  refine x_iconst dX8_addChamber_146 ?_
  refine x_iadd dX8_addChamber_147 ?_
  rw [show 21 + 11 * r 1 + 3 = 24 + 11 * r 1 by omega]
  refine x_iload_n dX8_addChamber_148 rfl ?_
  refine x_iast dX8_addChamber_149 (by assumption) ⟨by omega, by omega⟩ ?_
  refine x_aload_n dX8_addChamber_150 rfl ?_
  refine gf_RX8_7 dX8_addChamber_151 rfl (by assumption) ?_
  rw [m0]
  refine x_iload dX8_addChamber_154 rfl ?_
  refine x_bipush dX8_addChamber_156 (by decide) ?_
  refine x_iadd dX8_addChamber_158 ?_
  rw [show 21 + 11 * r 1 + 8 = 29 + 11 * r 1 by omega]
  refine x_ldc (e := -100000005) dX8_addChamber_159 ct_RX8_48 (by decide) ?_
  refine x_iast dX8_addChamber_161 (by assumption) ⟨by omega, by omega⟩ ?_
  refine x_aload_n dX8_addChamber_162 rfl ?_
  refine gf_RX8_7 dX8_addChamber_163 rfl (by assumption) ?_
  rw [m0]
  refine x_sipush dX8_addChamber_166 (by decide) ?_
  refine x_bipush dX8_addChamber_169 (by decide) ?_
  refine x_iload dX8_addChamber_171 rfl ?_
  refine x_imul dX8_addChamber_173 ?_
  refine x_iadd dX8_addChamber_174 ?_
  refine x_iconst dX8_addChamber_175 ?_
  refine x_iast dX8_addChamber_176 (by assumption) ⟨by omega, by omega⟩ ?_
  refine x_aload_n dX8_addChamber_177 rfl ?_
  refine gf_RX8_7 dX8_addChamber_178 rfl (by assumption) ?_
  rw [m0]
  refine x_iconst dX8_addChamber_181 ?_
  refine x_dup2 dX8_addChamber_182 (fun _ h => by cases h) (fun _ h => by cases h) ?_
  refine x_iald dX8_addChamber_183 (by assumption) ⟨by omega, by omega⟩ ?_
  rw [jup_nk (show (1 : Int) ≠ 161 + 13 * r 1 by omega), jup_nk (show (1 : Int) ≠ 29 + 11 * r 1 by omega), jup_nk (show (1 : Int) ≠ 24 + 11 * r 1 by omega), jup_nk (show (1 : Int) ≠ 22 + 11 * r 1 by omega), jup_nk (show (1 : Int) ≠ 21 + 11 * r 1 by omega), e8, rZc_o (by omega)]
  refine x_iconst dX8_addChamber_184 ?_
  refine x_iadd dX8_addChamber_185 ?_
  refine x_iast dX8_addChamber_186 (by assumption) ⟨by omega, by omega⟩ ?_
  have hr3 : (jup (jup (jup (jup (jup (jup D8 (M + 1) (21 + 11 * r 1) (al)) (M + 1) (22 + 11 * r 1) (f)) (M + 1) (24 + 11 * r 1) (l)) (M + 1) (29 + 11 * r 1) (-100000005)) (M + 1) (161 + 13 * r 1) (0)) (M + 1) (1) (r 1 + 1)) (M + 1) = rPutC al l f r := by rw [jup_row, jup_row, jup_row, jup_row, jup_row, jup_row, e8]; exact addC_row (by omega)
  have e30 : rPutC al l f r 0 = r 0 := rPutC_o (by omega) (by omega) (by omega)
  refine x_aload_n dX8_addChamber_187 rfl ?_
  refine x_iload dX8_addChamber_188 rfl ?_
  refine x_iload dX8_addChamber_190 rfl ?_
  refine x_iload dX8_addChamber_192 rfl ?_
  refine c_RX8_106p dX8_addChamber_194 rfl (kX8_putReach hM0 hr3 (by omega) (by omega)) (by assumption) (Nat.le_of_ble_eq_true rfl) (Nat.le_of_ble_eq_true rfl) ⟨Nat.le_refl _, Nat.le_refl _⟩ (fun D2 h2 => ?_)
  obtain ⟨g2, x2⟩ := h2
  have hX2 : ∀ x : Int, x ≠ M + 1 → D2 x = D1 x := fun x hx => by rw [x2 x hx, jup_off hx, jup_off hx, jup_off hx, jup_off hx, jup_off hx, jup_off hx]; exact f8 x hx
  refine x_aload_n dX8_addChamber_197 rfl ?_
  refine x_iload dX8_addChamber_198 rfl ?_
  refine c_RX8_110p dX8_addChamber_200 rfl (kX8_doneZ (z := (r 1, some (rAddC al l f p2 f2 w2 r), 0)) hM0 hm1 hsc ht (jDo_put g2 hX2) (zGood_s (by omega) (by omega) ((hI.addC t0 (by omega) hc hg).mono (by omega)))) (by assumption) (Nat.le_of_ble_eq_true rfl) (Nat.le_of_ble_eq_true rfl) ⟨Nat.le_refl _, Nat.le_refl _⟩ (fun w9 D9 h9 => ?_)
  have hw9 := h9.1
  subst hw9
  exact x_ireturn dX8_addChamber_203 rfl rfl ⟨Nat.le_refl _, Nat.le_refl _⟩ ⟨rfl, _, rfl, h9.from bx⟩
theorem kX8_addChamber {G : JG} {S : JS} {D : JD} {d : Nat} {M n t : Int} {hs : Int → Int → Int} {r : Int → Int}  {al l f p2 f2 w2 : Int} (hM : jMo S M) (hr : D (M + 1) = r) (hI : rIn t r) (ht : t + 1 ≤ 60000) (hm : jMh D M n hs)  (ra : i32 al) (rl : i32 l) (rf : i32 f) (rp2 : i32 p2) (rf2 : i32 f2) (rw2 : i32 w2) (t0 : 0 ≤ t) : JM G yX8_addChamber cX8_addChamber 10 (some .int) (d + 7) (0, 0) S D [.inr (.inr (some M)), .inl al, .inl l, .inl f, .inl p2, .inl f2, .inl w2] (jrP S (jRf D M n hs r (zAddChamber al l f p2 f2 w2 r))) := by
  have ht1 : t + 1 ≤ 60000 := by omega
  unfold zAddChamber
  by_cases hg : gCham al l f ∧ gReach p2 f2 w2
  · rw [if_pos hg]
    by_cases h0 : r 0 = 0 ∨ r 1 = 4
    · rw [if_pos h0]
      by_cases h4 : r 1 = 4
      · exact kX8_addChamber_f1 hM hr hI ht hm ra rl rf rp2 rf2 rw2 hg.1 hg.2 h4
      · exact kX8_addChamber_f2 hM hr hI ht hm ra rl rf rp2 rf2 rw2 hg.1 hg.2 h4 (by omega)
    · rw [if_neg h0]; exact kX8_addChamber_y hM hr hI ht hm ra rl rf rp2 rf2 rw2 hg.1 hg.2 (by omega) (by omega) t0
  · rw [if_neg hg]; exact kX8_addChamber_b hM hr hI ht hm ra rl rf rp2 rf2 rw2 hg
theorem addB_loop {G : JG} {S : JS} {D0 : JD} {d : Nat} {M p pp l w ii h b : Int} {r : Int → Int} {Q : Option JV → JS → JD → Prop} (hM : jMo S M) (b0 : 0 ≤ b) (b1 : b < 12) (hp : p = 65 + 8 * b)
    (K : ∀ D : JD, D (M + 1) = rZc r p 8 → (∀ x : Int, x ≠ M + 1 → D x = D0 x) → JX G yX8_addBarge cX8_addBarge 8 (some .int) (d + 7) (0, 0) (0, 0) S D 111 [some (.inr (.inr (some M))), some (.inl pp), some (.inl l), some (.inl w), some (.inl ii), some (.inl h), some (.inl b), some (.inl 8)] [] Q) : ∀ (n i : Nat) (D : JD), (i : Int) + n = 8 → D (M + 1) = rZc r p i → (∀ x : Int, x ≠ M + 1 → D x = D0 x) →
    JX G yX8_addBarge cX8_addBarge 8 (some .int) (d + 7) (0, 0) (0, 0) S D 89 [some (.inr (.inr (some M))), some (.inl pp), some (.inl l), some (.inl w), some (.inl ii), some (.inl h), some (.inl b), some (.inl i)] [] Q := by
  intro n
  induction n with
  | zero =>
    intro i D hn hr hX
    obtain ⟨mk, m0, m1, m2, m4, m5, m8, m12, y1, l1, y2, l2, y3, l3, y4, l4, y5, l5, y6, l6, y7, l7⟩ := id hM
    have ei : i = 8 := by omega
    subst ei
    refine x_iload dX8_addBarge_89 rfl ?_
    refine x_bipush dX8_addBarge_91 (by decide) ?_
    refine x_ic_ge (tgt := 111) dX8_addBarge_93 (by decide) ⟨by omega, by omega⟩ ⟨by omega, by omega⟩ (fun hb93 => ?_) (fun h => (h (by omega)).elim)
    exact K D hr hX
  | succ n ih =>
    intro i D hn hr hX
    obtain ⟨mk, m0, m1, m2, m4, m5, m8, m12, y1, l1, y2, l2, y3, l3, y4, l4, y5, l5, y6, l6, y7, l7⟩ := id hM
    refine x_iload dX8_addBarge_89 rfl ?_
    refine x_bipush dX8_addBarge_91 (by decide) ?_
    refine x_ic_ge (tgt := 111) dX8_addBarge_93 (by decide) ⟨by omega, by omega⟩ ⟨by omega, by omega⟩ (fun h => absurd h (by omega)) (fun hb93 => ?_)
    refine x_aload_n dX8_addBarge_96 rfl ?_
    refine x_iload dX8_addBarge_97 rfl ?_
    refine x_iload dX8_addBarge_99 rfl ?_
    refine x_iconst dX8_addBarge_101 ?_
    refine c_RX8_129d dX8_addBarge_102 rfl (kX8_put hM hr (by omega) (by omega)) (by assumption) (Nat.le_of_ble_eq_true rfl) (Nat.le_of_ble_eq_true rfl) ⟨Nat.le_refl _, Nat.le_refl _⟩ ?_
    refine x_iinc dX8_addBarge_105 rfl (by decide) ?_
    show JX _ _ _ _ _ _ _ _ _ _ _ [_, _, _, _, _, _, _, _] _ _
    refine x_goto (tgt := 89) dX8_addBarge_108 (by decide) ?_
    exact ih (i + 1) _ (by omega) (by rw [jup_row, hr, hp]; exact rZc_step (by omega)) (fun x hx => by rw [jup_off hx]; exact hX x hx)
theorem kX8_addBarge_u {G : JG} {S : JS} {D : JD} {d : Nat} {M n t : Int} {hs : Int → Int → Int} {r : Int → Int} {p l w i h : Int} (hM : jMo S M) (hr : D (M + 1) = r) (hI : rIn t r) (ht : t + 1 ≤ 60000) (hm : jMh D M n hs) (rp : i32 p) (rl : i32 l) (rw0 : i32 w) (ri : i32 i) (rh : i32 h) (h0 : ¬ (0 ≤ p ∧ p < r 0)) : JM G yX8_addBarge cX8_addBarge 8 (some .int) (d + 7) (0, 0) S D [.inr (.inr (some M)), .inl p, .inl l, .inl w, .inl i, .inl h] (jrP S (jRf D M n hs r (-100000001, none, 0))) := by
  have hM0 := hM
  obtain ⟨mk, m0, m1, m2, m4, m5, m8, m12, y1, l1, y2, l2, y3, l3, y4, l4, y5, l5, y6, l6, y7, l7⟩ := id hM
  have hr0 := hr
  have b1 := hI.1
  show JX _ _ _ _ _ _ _ _ _ _ _ [_, _, _, _, _, _, _, _] _ _
  refine x_aload_n dX8_addBarge_0 rfl ?_
  refine x_iload_n dX8_addBarge_1 rfl ?_
  refine c_RX8_117d dX8_addBarge_2 rfl (kX8_noReach hM0 hr0 rp (by omega)) (by assumption) (Nat.le_of_ble_eq_true rfl) (Nat.le_of_ble_eq_true rfl) ⟨Nat.le_refl _, Nat.le_refl _⟩ ?_
  refine x_if_eq (tgt := 11) dX8_addBarge_5 (by decide) ⟨by split <;> omega, by split <;> omega⟩ (fun h => absurd h (by omega)) (fun hb5 => ?_)
  refine x_ldc (e := -100000001) dX8_addBarge_8 ct_RX8_41 (by decide) ?_
  exact x_ireturn dX8_addBarge_10 rfl rfl ⟨Nat.le_refl _, Nat.le_refl _⟩ ⟨rfl, _, rfl, jRf_none hr hm⟩
theorem kX8_addBarge_b {G : JG} {S : JS} {D : JD} {d : Nat} {M n t : Int} {hs : Int → Int → Int} {r : Int → Int} {p l w i h : Int} (hM : jMo S M) (hr : D (M + 1) = r) (hI : rIn t r) (ht : t + 1 ≤ 60000) (hm : jMh D M n hs) (rp : i32 p) (rl : i32 l) (rw0 : i32 w) (ri : i32 i) (rh : i32 h) (h0 : 0 ≤ p ∧ p < r 0) (h1 : ¬ ((5 ≤ l ∧ l ≤ 60) ∧ (10 ≤ w ∧ w ≤ 500) ∧ (1 ≤ i ∧ i ≤ 20) ∧ (10 ≤ h ∧ h ≤ 1000))) : JM G yX8_addBarge cX8_addBarge 8 (some .int) (d + 7) (0, 0) S D [.inr (.inr (some M)), .inl p, .inl l, .inl w, .inl i, .inl h] (jrP S (jRf D M n hs r (-100000002, none, 0))) := by
  have hM0 := hM
  obtain ⟨mk, m0, m1, m2, m4, m5, m8, m12, y1, l1, y2, l2, y3, l3, y4, l4, y5, l5, y6, l6, y7, l7⟩ := id hM
  have hr0 := hr
  have b1 := hI.1
  show JX _ _ _ _ _ _ _ _ _ _ _ [_, _, _, _, _, _, _, _] _ _
  refine x_aload_n dX8_addBarge_0 rfl ?_
  refine x_iload_n dX8_addBarge_1 rfl ?_
  refine c_RX8_117d dX8_addBarge_2 rfl (kX8_noReach hM0 hr0 ⟨by omega, by omega⟩ (by omega)) (by assumption) (Nat.le_of_ble_eq_true rfl) (Nat.le_of_ble_eq_true rfl) ⟨Nat.le_refl _, Nat.le_refl _⟩ ?_
  refine x_if_eq (tgt := 11) dX8_addBarge_5 (by decide) ⟨by split <;> omega, by split <;> omega⟩ (fun hb5 => ?_) (fun h => (h (by omega)).elim)
  refine x_iload_n dX8_addBarge_11 rfl ?_
  refine x_iconst dX8_addBarge_12 ?_
  refine x_bipush dX8_addBarge_13 (by decide) ?_
  refine c_RX8_49d dX8_addBarge_15 rfl (kX8_in rl ⟨by omega, by omega⟩ ⟨by omega, by omega⟩) (Nat.le_of_ble_eq_true rfl) (Nat.le_of_ble_eq_true rfl) ⟨Nat.le_refl _, Nat.le_refl _⟩ ?_
  refine x_if_eq (tgt := 57) dX8_addBarge_18 (by decide) ⟨by split <;> omega, by split <;> omega⟩ (fun hb18 => ?_) (fun hb18 => ?_)
  · refine x_ldc (e := -100000002) dX8_addBarge_57 ct_RX8_104 (by decide) ?_
    exact x_ireturn dX8_addBarge_59 rfl rfl ⟨Nat.le_refl _, Nat.le_refl _⟩ ⟨rfl, _, rfl, jRf_none hr hm⟩
  · refine x_iload_n dX8_addBarge_21 rfl ?_
    refine x_bipush dX8_addBarge_22 (by decide) ?_
    refine x_sipush dX8_addBarge_24 (by decide) ?_
    refine c_RX8_49d dX8_addBarge_27 rfl (kX8_in rw0 ⟨by omega, by omega⟩ ⟨by omega, by omega⟩) (Nat.le_of_ble_eq_true rfl) (Nat.le_of_ble_eq_true rfl) ⟨Nat.le_refl _, Nat.le_refl _⟩ ?_
    refine x_if_eq (tgt := 57) dX8_addBarge_30 (by decide) ⟨by split <;> omega, by split <;> omega⟩ (fun hb30 => ?_) (fun hb30 => ?_)
    · refine x_ldc (e := -100000002) dX8_addBarge_57 ct_RX8_104 (by decide) ?_
      exact x_ireturn dX8_addBarge_59 rfl rfl ⟨Nat.le_refl _, Nat.le_refl _⟩ ⟨rfl, _, rfl, jRf_none hr hm⟩
    · refine x_iload dX8_addBarge_33 rfl ?_
      refine x_iconst dX8_addBarge_35 ?_
      refine x_bipush dX8_addBarge_36 (by decide) ?_
      refine c_RX8_49d dX8_addBarge_38 rfl (kX8_in ri ⟨by omega, by omega⟩ ⟨by omega, by omega⟩) (Nat.le_of_ble_eq_true rfl) (Nat.le_of_ble_eq_true rfl) ⟨Nat.le_refl _, Nat.le_refl _⟩ ?_
      refine x_if_eq (tgt := 57) dX8_addBarge_41 (by decide) ⟨by split <;> omega, by split <;> omega⟩ (fun hb41 => ?_) (fun hb41 => ?_)
      · refine x_ldc (e := -100000002) dX8_addBarge_57 ct_RX8_104 (by decide) ?_
        exact x_ireturn dX8_addBarge_59 rfl rfl ⟨Nat.le_refl _, Nat.le_refl _⟩ ⟨rfl, _, rfl, jRf_none hr hm⟩
      · refine x_iload dX8_addBarge_44 rfl ?_
        refine x_bipush dX8_addBarge_46 (by decide) ?_
        refine x_sipush dX8_addBarge_48 (by decide) ?_
        refine c_RX8_49d dX8_addBarge_51 rfl (kX8_in rh ⟨by omega, by omega⟩ ⟨by omega, by omega⟩) (Nat.le_of_ble_eq_true rfl) (Nat.le_of_ble_eq_true rfl) ⟨Nat.le_refl _, Nat.le_refl _⟩ ?_
        refine x_if_ne (tgt := 60) dX8_addBarge_54 (by decide) ⟨by split <;> omega, by split <;> omega⟩ (fun h => absurd h (by omega)) (fun hb54 => ?_)
        refine x_ldc (e := -100000002) dX8_addBarge_57 ct_RX8_104 (by decide) ?_
        exact x_ireturn dX8_addBarge_59 rfl rfl ⟨Nat.le_refl _, Nat.le_refl _⟩ ⟨rfl, _, rfl, jRf_none hr hm⟩
theorem kX8_addBarge_f {G : JG} {S : JS} {D : JD} {d : Nat} {M n t : Int} {hs : Int → Int → Int} {r : Int → Int} {p l w i h : Int} (hM : jMo S M) (hr : D (M + 1) = r) (hI : rIn t r) (ht : t + 1 ≤ 60000) (hm : jMh D M n hs) (rp : i32 p) (rl : i32 l) (rw0 : i32 w) (ri : i32 i) (rh : i32 h) (h0 : 0 ≤ p ∧ p < r 0) (h1 : (5 ≤ l ∧ l ≤ 60) ∧ (10 ≤ w ∧ w ≤ 500) ∧ (1 ≤ i ∧ i ≤ 20) ∧ (10 ≤ h ∧ h ≤ 1000)) (h2 : r 2 = 12) : JM G yX8_addBarge cX8_addBarge 8 (some .int) (d + 7) (0, 0) S D [.inr (.inr (some M)), .inl p, .inl l, .inl w, .inl i, .inl h] (jrP S (jRf D M n hs r (-100000004, none, 0))) := by
  have hM0 := hM
  obtain ⟨mk, m0, m1, m2, m4, m5, m8, m12, y1, l1, y2, l2, y3, l3, y4, l4, y5, l5, y6, l6, y7, l7⟩ := id hM
  have hr0 := hr
  have b1 := hI.1
  show JX _ _ _ _ _ _ _ _ _ _ _ [_, _, _, _, _, _, _, _] _ _
  refine x_aload_n dX8_addBarge_0 rfl ?_
  refine x_iload_n dX8_addBarge_1 rfl ?_
  refine c_RX8_117d dX8_addBarge_2 rfl (kX8_noReach hM0 hr0 ⟨by omega, by omega⟩ (by omega)) (by assumption) (Nat.le_of_ble_eq_true rfl) (Nat.le_of_ble_eq_true rfl) ⟨Nat.le_refl _, Nat.le_refl _⟩ ?_
  refine x_if_eq (tgt := 11) dX8_addBarge_5 (by decide) ⟨by split <;> omega, by split <;> omega⟩ (fun hb5 => ?_) (fun h => (h (by omega)).elim)
  refine x_iload_n dX8_addBarge_11 rfl ?_
  refine x_iconst dX8_addBarge_12 ?_
  refine x_bipush dX8_addBarge_13 (by decide) ?_
  refine c_RX8_49d dX8_addBarge_15 rfl (kX8_in rl ⟨by omega, by omega⟩ ⟨by omega, by omega⟩) (Nat.le_of_ble_eq_true rfl) (Nat.le_of_ble_eq_true rfl) ⟨Nat.le_refl _, Nat.le_refl _⟩ ?_
  refine x_if_eq (tgt := 57) dX8_addBarge_18 (by decide) ⟨by split <;> omega, by split <;> omega⟩ (fun h => absurd h (by omega)) (fun hb18 => ?_)
  refine x_iload_n dX8_addBarge_21 rfl ?_
  refine x_bipush dX8_addBarge_22 (by decide) ?_
  refine x_sipush dX8_addBarge_24 (by decide) ?_
  refine c_RX8_49d dX8_addBarge_27 rfl (kX8_in rw0 ⟨by omega, by omega⟩ ⟨by omega, by omega⟩) (Nat.le_of_ble_eq_true rfl) (Nat.le_of_ble_eq_true rfl) ⟨Nat.le_refl _, Nat.le_refl _⟩ ?_
  refine x_if_eq (tgt := 57) dX8_addBarge_30 (by decide) ⟨by split <;> omega, by split <;> omega⟩ (fun h => absurd h (by omega)) (fun hb30 => ?_)
  refine x_iload dX8_addBarge_33 rfl ?_
  refine x_iconst dX8_addBarge_35 ?_
  refine x_bipush dX8_addBarge_36 (by decide) ?_
  refine c_RX8_49d dX8_addBarge_38 rfl (kX8_in ri ⟨by omega, by omega⟩ ⟨by omega, by omega⟩) (Nat.le_of_ble_eq_true rfl) (Nat.le_of_ble_eq_true rfl) ⟨Nat.le_refl _, Nat.le_refl _⟩ ?_
  refine x_if_eq (tgt := 57) dX8_addBarge_41 (by decide) ⟨by split <;> omega, by split <;> omega⟩ (fun h => absurd h (by omega)) (fun hb41 => ?_)
  refine x_iload dX8_addBarge_44 rfl ?_
  refine x_bipush dX8_addBarge_46 (by decide) ?_
  refine x_sipush dX8_addBarge_48 (by decide) ?_
  refine c_RX8_49d dX8_addBarge_51 rfl (kX8_in rh ⟨by omega, by omega⟩ ⟨by omega, by omega⟩) (Nat.le_of_ble_eq_true rfl) (Nat.le_of_ble_eq_true rfl) ⟨Nat.le_refl _, Nat.le_refl _⟩ ?_
  refine x_if_ne (tgt := 60) dX8_addBarge_54 (by decide) ⟨by split <;> omega, by split <;> omega⟩ (fun hb54 => ?_) (fun h => (h (by omega)).elim)
  refine x_aload_n dX8_addBarge_60 rfl ?_
  refine gf_RX8_7 dX8_addBarge_61 rfl (by assumption) ?_
  rw [m0]
  refine x_iconst dX8_addBarge_64 ?_
  refine x_iald dX8_addBarge_65 (by assumption) ⟨by omega, by omega⟩ ?_
  rw [hr]
  refine x_bipush dX8_addBarge_66 (by decide) ?_
  refine x_ic_ne (tgt := 74) dX8_addBarge_68 (by decide) ⟨by omega, by omega⟩ ⟨by omega, by omega⟩ (fun h => absurd h (by omega)) (fun hb68 => ?_)
  refine x_ldc (e := -100000004) dX8_addBarge_71 ct_RX8_105 (by decide) ?_
  exact x_ireturn dX8_addBarge_73 rfl rfl ⟨Nat.le_refl _, Nat.le_refl _⟩ ⟨rfl, _, rfl, jRf_none hr hm⟩
theorem kX8_addBarge_y {G : JG} {S : JS} {D : JD} {d : Nat} {M n t : Int} {hs : Int → Int → Int} {r : Int → Int} {p l w i h : Int} (hM : jMo S M) (hr : D (M + 1) = r) (hI : rIn t r) (ht : t + 1 ≤ 60000) (hm : jMh D M n hs) (rp : i32 p) (rl : i32 l) (rw0 : i32 w) (ri : i32 i) (rh : i32 h) (h0 : 0 ≤ p ∧ p < r 0) (h1 : (5 ≤ l ∧ l ≤ 60) ∧ (10 ≤ w ∧ w ≤ 500) ∧ (1 ≤ i ∧ i ≤ 20) ∧ (10 ≤ h ∧ h ≤ 1000)) (h2 : ¬ r 2 = 12) (t0 : 0 ≤ t) : JM G yX8_addBarge cX8_addBarge 8 (some .int) (d + 7) (0, 0) S D [.inr (.inr (some M)), .inl p, .inl l, .inl w, .inl i, .inl h] (jrP S (jRf D M n hs r (r 2, some (rAddB p l w i h r), 0))) := by
  have hM0 := hM
  obtain ⟨mk, m0, m1, m2, m4, m5, m8, m12, y1, l1, y2, l2, y3, l3, y4, l4, y5, l5, y6, l6, y7, l7⟩ := id hM
  have hr0 := hr
  have b1 := hI.1
  show JX _ _ _ _ _ _ _ _ _ _ _ [_, _, _, _, _, _, _, _] _ _
  refine x_aload_n dX8_addBarge_0 rfl ?_
  refine x_iload_n dX8_addBarge_1 rfl ?_
  refine c_RX8_117d dX8_addBarge_2 rfl (kX8_noReach hM0 hr0 ⟨by omega, by omega⟩ (by omega)) (by assumption) (Nat.le_of_ble_eq_true rfl) (Nat.le_of_ble_eq_true rfl) ⟨Nat.le_refl _, Nat.le_refl _⟩ ?_
  refine x_if_eq (tgt := 11) dX8_addBarge_5 (by decide) ⟨by split <;> omega, by split <;> omega⟩ (fun hb5 => ?_) (fun h => (h (by omega)).elim)
  refine x_iload_n dX8_addBarge_11 rfl ?_
  refine x_iconst dX8_addBarge_12 ?_
  refine x_bipush dX8_addBarge_13 (by decide) ?_
  refine c_RX8_49d dX8_addBarge_15 rfl (kX8_in rl ⟨by omega, by omega⟩ ⟨by omega, by omega⟩) (Nat.le_of_ble_eq_true rfl) (Nat.le_of_ble_eq_true rfl) ⟨Nat.le_refl _, Nat.le_refl _⟩ ?_
  refine x_if_eq (tgt := 57) dX8_addBarge_18 (by decide) ⟨by split <;> omega, by split <;> omega⟩ (fun h => absurd h (by omega)) (fun hb18 => ?_)
  refine x_iload_n dX8_addBarge_21 rfl ?_
  refine x_bipush dX8_addBarge_22 (by decide) ?_
  refine x_sipush dX8_addBarge_24 (by decide) ?_
  refine c_RX8_49d dX8_addBarge_27 rfl (kX8_in rw0 ⟨by omega, by omega⟩ ⟨by omega, by omega⟩) (Nat.le_of_ble_eq_true rfl) (Nat.le_of_ble_eq_true rfl) ⟨Nat.le_refl _, Nat.le_refl _⟩ ?_
  refine x_if_eq (tgt := 57) dX8_addBarge_30 (by decide) ⟨by split <;> omega, by split <;> omega⟩ (fun h => absurd h (by omega)) (fun hb30 => ?_)
  refine x_iload dX8_addBarge_33 rfl ?_
  refine x_iconst dX8_addBarge_35 ?_
  refine x_bipush dX8_addBarge_36 (by decide) ?_
  refine c_RX8_49d dX8_addBarge_38 rfl (kX8_in ri ⟨by omega, by omega⟩ ⟨by omega, by omega⟩) (Nat.le_of_ble_eq_true rfl) (Nat.le_of_ble_eq_true rfl) ⟨Nat.le_refl _, Nat.le_refl _⟩ ?_
  refine x_if_eq (tgt := 57) dX8_addBarge_41 (by decide) ⟨by split <;> omega, by split <;> omega⟩ (fun h => absurd h (by omega)) (fun hb41 => ?_)
  refine x_iload dX8_addBarge_44 rfl ?_
  refine x_bipush dX8_addBarge_46 (by decide) ?_
  refine x_sipush dX8_addBarge_48 (by decide) ?_
  refine c_RX8_49d dX8_addBarge_51 rfl (kX8_in rh ⟨by omega, by omega⟩ ⟨by omega, by omega⟩) (Nat.le_of_ble_eq_true rfl) (Nat.le_of_ble_eq_true rfl) ⟨Nat.le_refl _, Nat.le_refl _⟩ ?_
  refine x_if_ne (tgt := 60) dX8_addBarge_54 (by decide) ⟨by split <;> omega, by split <;> omega⟩ (fun hb54 => ?_) (fun h => (h (by omega)).elim)
  refine x_aload_n dX8_addBarge_60 rfl ?_
  refine gf_RX8_7 dX8_addBarge_61 rfl (by assumption) ?_
  rw [m0]
  refine x_iconst dX8_addBarge_64 ?_
  refine x_iald dX8_addBarge_65 (by assumption) ⟨by omega, by omega⟩ ?_
  rw [hr]
  refine x_bipush dX8_addBarge_66 (by decide) ?_
  refine x_ic_ne (tgt := 74) dX8_addBarge_68 (by decide) ⟨by omega, by omega⟩ ⟨by omega, by omega⟩ (fun hb68 => ?_) (fun h => (h (by omega)).elim)
  refine x_aload_n dX8_addBarge_74 rfl ?_
  refine c_RX8_53p dX8_addBarge_75 rfl (kX8_begin hM0 hr0) (by assumption) (Nat.le_of_ble_eq_true rfl) (Nat.le_of_ble_eq_true rfl) ⟨Nat.le_refl _, Nat.le_refl _⟩ (fun D1 h1 => ?_)
  obtain ⟨hsc, bx⟩ := h1
  have hr1 : D1 (M + 1) = r := by rw [bx _ (by omega)]; exact hr
  have hm1 : jMh D1 M n hs := hm.frame (by rw [bx M (by omega)]) (bx _ (by omega))
  refine x_aload_n dX8_addBarge_78 rfl ?_
  refine gf_RX8_7 dX8_addBarge_79 rfl (by assumption) ?_
  rw [m0]
  refine x_iconst dX8_addBarge_82 ?_
  refine x_iald dX8_addBarge_83 (by assumption) ⟨by omega, by omega⟩ ?_
  rw [hr1]
  refine x_istore dX8_addBarge_84 (by decide) ?_
  show JX _ _ _ _ _ _ _ _ _ _ _ [_, _, _, _, _, _, _, _] _ _
  refine x_iconst dX8_addBarge_86 ?_
  refine x_istore dX8_addBarge_87 (by decide) ?_
  show JX _ _ _ _ _ _ _ _ _ _ _ [_, _, _, _, _, _, _, _] _ _
  refine addB_loop (r := r) (D0 := D1) (p := 65 + 8 * r 2) hM0 (by omega) (by omega) rfl (fun D8 e8 f8 => ?_) 8 0 D1 (by omega) (by rw [hr1]; exact rZc_0.symm) (fun _ _ => rfl)
  refine x_aload_n dX8_addBarge_111 rfl ?_
  refine x_iload dX8_addBarge_112 rfl ?_
  refine x_iconst dX8_addBarge_114 ?_
  refine x_iload_n dX8_addBarge_115 rfl ?_
  refine c_RX8_129d dX8_addBarge_116 rfl (kX8_put hM0 rfl (by omega) (by omega)) (by assumption) (Nat.le_of_ble_eq_true rfl) (Nat.le_of_ble_eq_true rfl) ⟨Nat.le_refl _, Nat.le_refl _⟩ ?_
  rw [show 65 + 8 * r 2 + 0 = 65 + 8 * r 2 by omega]
  refine x_aload_n dX8_addBarge_119 rfl ?_
  refine x_iload dX8_addBarge_120 rfl ?_
  refine x_iconst dX8_addBarge_122 ?_
  refine x_iload_n dX8_addBarge_123 rfl ?_
  refine c_RX8_129d dX8_addBarge_124 rfl (kX8_put hM0 rfl (by omega) (by omega)) (by assumption) (Nat.le_of_ble_eq_true rfl) (Nat.le_of_ble_eq_true rfl) ⟨Nat.le_refl _, Nat.le_refl _⟩ ?_
  rw [show 65 + 8 * r 2 + 1 = 66 + 8 * r 2 by omega]
  refine x_aload_n dX8_addBarge_127 rfl ?_
  refine x_iload dX8_addBarge_128 rfl ?_
  refine x_iconst dX8_addBarge_130 ?_
  refine x_iload dX8_addBarge_131 rfl ?_
  refine c_RX8_129d dX8_addBarge_133 rfl (kX8_put hM0 rfl (by omega) (by omega)) (by assumption) (Nat.le_of_ble_eq_true rfl) (Nat.le_of_ble_eq_true rfl) ⟨Nat.le_refl _, Nat.le_refl _⟩ ?_
  rw [show 65 + 8 * r 2 + 2 = 67 + 8 * r 2 by omega]
  refine x_aload_n dX8_addBarge_136 rfl ?_
  refine x_iload dX8_addBarge_137 rfl ?_
  refine x_iconst dX8_addBarge_139 ?_
  refine x_iload dX8_addBarge_140 rfl ?_
  refine c_RX8_129d dX8_addBarge_142 rfl (kX8_put hM0 rfl (by omega) (by omega)) (by assumption) (Nat.le_of_ble_eq_true rfl) (Nat.le_of_ble_eq_true rfl) ⟨Nat.le_refl _, Nat.le_refl _⟩ ?_
  rw [show 65 + 8 * r 2 + 3 = 68 + 8 * r 2 by omega]
  refine x_aload_n dX8_addBarge_145 rfl ?_
  refine x_iload dX8_addBarge_146 rfl ?_
  refine x_bipush dX8_addBarge_148 (by decide) ?_
  refine x_iload_n dX8_addBarge_150 rfl ?_
  refine c_RX8_129d dX8_addBarge_151 rfl (kX8_put hM0 rfl (by omega) (by omega)) (by assumption) (Nat.le_of_ble_eq_true rfl) (Nat.le_of_ble_eq_true rfl) ⟨Nat.le_refl _, Nat.le_refl _⟩ ?_
  rw [show 65 + 8 * r 2 + 6 = 71 + 8 * r 2 by omega]
  refine x_aload_n dX8_addBarge_154 rfl ?_
  refine gf_RX8_7 dX8_addBarge_155 rfl (by assumption) ?_
  rw [m0]
  refine x_iconst dX8_addBarge_158 ?_
  refine x_dup2 dX8_addBarge_159 (fun _ h => by cases h) (fun _ h => by cases h) ?_
  refine x_iald dX8_addBarge_160 (by assumption) ⟨by omega, by omega⟩ ?_
  rw [jup_nk (show (2 : Int) ≠ 71 + 8 * r 2 by omega), jup_nk (show (2 : Int) ≠ 68 + 8 * r 2 by omega), jup_nk (show (2 : Int) ≠ 67 + 8 * r 2 by omega), jup_nk (show (2 : Int) ≠ 66 + 8 * r 2 by omega), jup_nk (show (2 : Int) ≠ 65 + 8 * r 2 by omega), e8, rZc_o (by omega)]
  refine x_iconst dX8_addBarge_161 ?_
  refine x_iadd dX8_addBarge_162 ?_
  refine x_iast dX8_addBarge_163 (by assumption) ⟨by omega, by omega⟩ ?_
  have hr3 : (jup (jup (jup (jup (jup (jup D8 (M + 1) (65 + 8 * r 2) (l)) (M + 1) (66 + 8 * r 2) (w)) (M + 1) (67 + 8 * r 2) (i)) (M + 1) (68 + 8 * r 2) (h)) (M + 1) (71 + 8 * r 2) (p)) (M + 1) (2) (r 2 + 1)) (M + 1) = rAddB p l w i h r := by rw [jup_row, jup_row, jup_row, jup_row, jup_row, jup_row, e8]; exact addB_row (by omega)
  have hX2 : ∀ x : Int, x ≠ M + 1 → (jup (jup (jup (jup (jup (jup D8 (M + 1) (65 + 8 * r 2) (l)) (M + 1) (66 + 8 * r 2) (w)) (M + 1) (67 + 8 * r 2) (i)) (M + 1) (68 + 8 * r 2) (h)) (M + 1) (71 + 8 * r 2) (p)) (M + 1) (2) (r 2 + 1)) x = D1 x := fun x hx => by rw [jup_off hx, jup_off hx, jup_off hx, jup_off hx, jup_off hx, jup_off hx]; exact f8 x hx
  refine x_aload_n dX8_addBarge_164 rfl ?_
  refine x_iload dX8_addBarge_165 rfl ?_
  refine c_RX8_110p dX8_addBarge_167 rfl (kX8_doneZ (z := (r 2, some (rAddB p l w i h r), 0)) hM0 hm1 hsc ht (jDo_put hr3 hX2) (zGood_s (by omega) (by omega) ((hI.addB h0.1 h0.2 (by omega) h1.1 h1.2.1 h1.2.2.1 h1.2.2.2 t0).mono (by omega)))) (by assumption) (Nat.le_of_ble_eq_true rfl) (Nat.le_of_ble_eq_true rfl) ⟨Nat.le_refl _, Nat.le_refl _⟩ (fun w9 D9 h9 => ?_)
  have hw9 := h9.1
  subst hw9
  exact x_ireturn dX8_addBarge_170 rfl rfl ⟨Nat.le_refl _, Nat.le_refl _⟩ ⟨rfl, _, rfl, h9.from bx⟩
theorem kX8_addBarge {G : JG} {S : JS} {D : JD} {d : Nat} {M n t : Int} {hs : Int → Int → Int} {r : Int → Int}  {p l w i h : Int} (hM : jMo S M) (hr : D (M + 1) = r) (hI : rIn t r) (ht : t + 1 ≤ 60000) (hm : jMh D M n hs)  (rp : i32 p) (rl : i32 l) (rw0 : i32 w) (ri : i32 i) (rh : i32 h) (t0 : 0 ≤ t) : JM G yX8_addBarge cX8_addBarge 8 (some .int) (d + 7) (0, 0) S D [.inr (.inr (some M)), .inl p, .inl l, .inl w, .inl i, .inl h] (jrP S (jRf D M n hs r (zAddBarge p l w i h r))) := by
  have ht1 : t + 1 ≤ 60000 := by omega
  unfold zAddBarge
  by_cases h0 : 0 ≤ p ∧ p < r 0
  · rw [if_pos h0]
    by_cases h1 : (5 ≤ l ∧ l ≤ 60) ∧ (10 ≤ w ∧ w ≤ 500) ∧ (1 ≤ i ∧ i ≤ 20) ∧ (10 ≤ h ∧ h ≤ 1000)
    · rw [if_pos h1]
      by_cases h2 : r 2 = 12
      · rw [if_pos h2]; exact kX8_addBarge_f hM hr hI ht hm rp rl rw0 ri rh h0 h1 h2
      · rw [if_neg h2]; exact kX8_addBarge_y hM hr hI ht hm rp rl rw0 ri rh h0 h1 h2 t0
    · rw [if_neg h1]; exact kX8_addBarge_b hM hr hI ht hm rp rl rw0 ri rh h0 h1
  · rw [if_neg h0]; exact kX8_addBarge_u hM hr hI ht hm rp rl rw0 ri rh h0
