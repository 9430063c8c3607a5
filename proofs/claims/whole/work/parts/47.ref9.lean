/-! THE REFERENCE: doSluice, doOpen, doLoad, doPump -/
theorem jDo_put {D D2 : JD} {M v : Int} {r r2 : Int → Int} (h1 : D2 (M + 1) = r2) (h2 : ∀ x : Int, x ≠ M + 1 → D2 x = D x) : jDo D M r (v, some r2, 0) (.inl v) D2 :=
  ⟨rfl, fun x _ h => h2 x h, fun k _ => by rw [h2 M (by omega)], h1, by rw [if_pos rfl, h2 M (by omega)]⟩
/-- acts keep what holds of every state -/
theorem rIn.load {t : Int} {r : Int → Int} {k v : Int} (hI : rIn t r) (h0 : 0 ≤ k) (h1 : k < r 2) (hv : 0 ≤ r (69 + 8 * k) + v ∧ v ≤ r (68 + 8 * k) - r (69 + 8 * k) - r (70 + 8 * k)) : rIn t (rLoad k v r) :=
  hI.put (t2 := t) (f := 69 + 8 * k) (v := v) (by omega) h0 h1 (by omega) (by omega) (by omega) (by have := hI.2.2.2.2.1; split <;> omega)
theorem sTot_put1 {t : Int} {r : Int → Int} {k v : Int} (hI : rIn t r) (h0 : 0 ≤ k) (h1 : k < r 2) : sTot (rup r (70 + 8 * k) (r (70 + 8 * k) + v)) = sTot r + v := by
  have b1 := hI.1
  unfold sTot
  rw [rup_ne (show (0 : Int) ≠ 70 + 8 * k by omega), rup_ne (show (1 : Int) ≠ 70 + 8 * k by omega), rup_ne (show (2 : Int) ≠ 70 + 8 * k by omega), jsum_congr (f := fun i => rup r (70 + 8 * k) (r (70 + 8 * k) + v) (8 + 3 * i)) (g := fun i => r (8 + 3 * i)) (fun j x y => rup_ne (by omega)),
    jsum_congr (f := fun c => rup r (70 + 8 * k) (r (70 + 8 * k) + v) (23 + 11 * c)) (g := fun c => r (23 + 11 * c)) (fun j x y => rup_ne (by omega)), jsum_one (f := fun b => r (70 + 8 * b)) (g := fun b => rup r (70 + 8 * k) (r (70 + 8 * k) + v) (70 + 8 * b)) (i := k) h0 (by omega) (fun j x y z => rup_ne (by omega))]
  show _ + (_ + (rup r (70 + 8 * k) (r (70 + 8 * k) + v) (70 + 8 * k) - r (70 + 8 * k))) = _
  rw [rup_eq]
  omega
theorem rIn.pump {t : Int} {r : Int → Int} {k v : Int} (hI : rIn t r) (h0 : 0 ≤ k) (h1 : k < r 2) (ht : -1000 ≤ v ∧ v ≤ 1000) (hv : v ≤ r (wA (r (71 + 8 * k)) + 2) ∧ 0 ≤ r (70 + 8 * k) + v ∧ v ≤ r (68 + 8 * k) - r (69 + 8 * k) - r (70 + 8 * k)) : rIn (t + 1) (rPump k v r) := by
  have b1 := hI.1
  obtain ⟨bp, w0, w1, i0, i1, d0, d1⟩ := hI.bw h0 h1
  have bl := bp.lin hI 0
  have hIa := hI.put (t2 := t + 1) (f := 70 + 8 * k) (v := v) (by omega) h0 h1 (by omega) (by omega) (by omega) (by have := hI.2.2.2.2.1; split <;> omega)
  have g0 : rup r (70 + 8 * k) (r (70 + 8 * k) + v) 0 = r 0 := rup_ne (by omega)
  have g1 : rup r (70 + 8 * k) (r (70 + 8 * k) + v) 1 = r 1 := rup_ne (by omega)
  have bp2 : rPl (rup r (70 + 8 * k) (r (70 + 8 * k) + v)) (r (71 + 8 * k)) := by unfold rPl; rw [g0, g1]; omega
  have wb : wA (r (71 + 8 * k)) + 2 < 60 := by unfold wA; split <;> omega
  have wb2 : 6 ≤ wA (r (71 + 8 * k)) := by unfold wA; split <;> omega
  have gw : rup r (70 + 8 * k) (r (70 + 8 * k) + v) (wA (r (71 + 8 * k)) + 2) = r (wA (r (71 + 8 * k)) + 2) := rup_ne (by omega)
  have hI2 := hIa.wat1 (t2 := t + 1) (x := r (wA (r (71 + 8 * k)) + 2) - v) bp2 (by omega) (by omega) (by have := hIa.2.2.2.2.1; rw [g0] at this; rw [gw, g0]; have e := sTot_put1 (v := v) hI h0 h1; have := hI.2.2.2.2.1; omega)
  rw [show rup (rup r (70 + 8 * k) (r (70 + 8 * k) + v)) (wA (r (71 + 8 * k)) + 2) (r (wA (r (71 + 8 * k)) + 2) - v) = rPump k v r from rup_comm (by omega)] at hI2
  exact hI2
theorem kX8_doOpen_l {G : JG} {S : JS} {D : JD} {d : Nat} {M t : Int} {r : Int → Int} {c g : Int} (hM : jMo S M) (hr : D (M + 1) = r) (hI : rIn t r) (ht : t ≤ 60000) (h0 : 0 ≤ c) (h1 : c < r 1) (hg : g = 0 ∨ g = 1) (h : r (29 + 11 * c) < 0) (hl : ¬ (sLv r (100 + c) - sLv r (c + g) ≤ 2 ∧ sLv r (c + g) - sLv r (100 + c) ≤ 2)) : JM G yX8_doOpen cX8_doOpen 3 (some .int) (d + 5) (0, 0) S D [.inr (.inr (some M)), .inl c, .inl g] (jrP S (jDo D M r (-100000003, none, 3))) := by
  have hM0 := hM
  obtain ⟨mk, m0, m1, m2, m4, m5, m8, m12, y1, l1, y2, l2, y3, l3, y4, l4, y5, l5, y6, l6, y7, l7⟩ := id hM
  have hr0 := hr
  have b1 := hI.1
  have hgt := hI.gates c h0 h1
  have hrr := hI.reach h0 h1 hg
  have p1 : rPl r (100 + c) := Or.inr ⟨by omega, by omega⟩
  have p2 : rPl r (c + g) := Or.inl ⟨by omega, by omega⟩
  obtain ⟨wo1, wm1, -, -, -, -⟩ := hI.wat ht p1
  obtain ⟨wo2, wm2, -, -, -, -⟩ := hI.wat ht p2
  have dp1 := hI.dp wo1 wm1
  have dp2 := hI.dp wo2 wm2
  show JX _ _ _ _ _ _ _ _ _ _ _ [_, _, _] _ _
  refine x_aload_n dX8_doOpen_0 rfl ?_
  refine x_iload_n dX8_doOpen_1 rfl ?_
  refine x_iload_n dX8_doOpen_2 rfl ?_
  refine c_RX8_113d dX8_doOpen_3 rfl (kX8_noGate hM0 hr0 ⟨by omega, by omega⟩ ⟨by omega, by omega⟩ (by omega)) (by assumption) (Nat.le_of_ble_eq_true rfl) (Nat.le_of_ble_eq_true rfl) ⟨Nat.le_refl _, Nat.le_refl _⟩ ?_
  refine x_if_eq (tgt := 12) dX8_doOpen_6 (by decide) ⟨by split <;> omega, by split <;> omega⟩ (fun hb6 => ?_) (fun hz => (hz (by rw [if_pos ⟨⟨h0, h1⟩, hg⟩])).elim)
  refine x_aload_n dX8_doOpen_12 rfl ?_
  refine x_iload_n dX8_doOpen_13 rfl ?_
  refine c_RX8_92d dX8_doOpen_14 rfl (kX8_openGate hM0 hr0 h0 (by omega)) (by assumption) (Nat.le_of_ble_eq_true rfl) (Nat.le_of_ble_eq_true rfl) ⟨Nat.le_refl _, Nat.le_refl _⟩ ?_
  refine x_if_lt (tgt := 26) dX8_doOpen_17 (by decide) ⟨by omega, by omega⟩ (fun hb17 => ?_) (fun h => (h (by omega)).elim)
  refine x_aload_n dX8_doOpen_26 rfl ?_
  refine x_bipush dX8_doOpen_27 (by decide) ?_
  refine x_iload_n dX8_doOpen_29 rfl ?_
  refine x_iadd dX8_doOpen_30 ?_
  refine c_RX8_126d dX8_doOpen_31 rfl (kX8_level hM0 hr0 hI ht p1) (by assumption) (Nat.le_of_ble_eq_true rfl) (Nat.le_of_ble_eq_true rfl) ⟨Nat.le_refl _, Nat.le_refl _⟩ ?_
  refine x_aload_n dX8_doOpen_34 rfl ?_
  refine x_iload_n dX8_doOpen_35 rfl ?_
  refine x_iload_n dX8_doOpen_36 rfl ?_
  refine x_iadd dX8_doOpen_37 ?_
  refine c_RX8_126d dX8_doOpen_38 rfl (kX8_level hM0 hr0 hI ht p2) (by assumption) (Nat.le_of_ble_eq_true rfl) (Nat.le_of_ble_eq_true rfl) ⟨Nat.le_refl _, Nat.le_refl _⟩ ?_
  refine x_isub dX8_doOpen_41 ?_
  refine x_bipush dX8_doOpen_42 (by decide) ?_
  refine x_iconst dX8_doOpen_44 ?_
  refine c_RX8_49d dX8_doOpen_45 rfl (kX8_in ⟨by omega, by omega⟩ ⟨by omega, by omega⟩ ⟨by omega, by omega⟩) (Nat.le_of_ble_eq_true rfl) (Nat.le_of_ble_eq_true rfl) ⟨Nat.le_refl _, Nat.le_refl _⟩ ?_
  refine x_if_ne (tgt := 57) dX8_doOpen_48 (by decide) ⟨by split <;> omega, by split <;> omega⟩ (fun h => absurd h (by omega)) (fun hb48 => ?_)
  refine x_aload_n dX8_doOpen_51 rfl ?_
  refine x_iconst dX8_doOpen_52 ?_
  refine c_RX8_123d dX8_doOpen_53 rfl (kX8_refuse hM0) (by assumption) (Nat.le_of_ble_eq_true rfl) (Nat.le_of_ble_eq_true rfl) ⟨Nat.le_refl _, Nat.le_refl _⟩ ?_
  exact x_ireturn dX8_doOpen_56 rfl rfl ⟨Nat.le_refl _, Nat.le_refl _⟩ ⟨rfl, _, rfl, jDo_ref hr (by decide)⟩
theorem kX8_doOpen_y {G : JG} {S : JS} {D : JD} {d : Nat} {M t : Int} {r : Int → Int} {c g : Int} (hM : jMo S M) (hr : D (M + 1) = r) (hI : rIn t r) (ht : t ≤ 60000) (h0 : 0 ≤ c) (h1 : c < r 1) (hg : g = 0 ∨ g = 1) (h : r (29 + 11 * c) < 0) (hl : sLv r (100 + c) - sLv r (c + g) ≤ 2 ∧ sLv r (c + g) - sLv r (100 + c) ≤ 2) : JM G yX8_doOpen cX8_doOpen 3 (some .int) (d + 5) (0, 0) S D [.inr (.inr (some M)), .inl c, .inl g] (jrP S (jDo D M r (0, some (rup r (29 + 11 * c) g), 0))) := by
  have hM0 := hM
  obtain ⟨mk, m0, m1, m2, m4, m5, m8, m12, y1, l1, y2, l2, y3, l3, y4, l4, y5, l5, y6, l6, y7, l7⟩ := id hM
  have hr0 := hr
  have b1 := hI.1
  have hgt := hI.gates c h0 h1
  have hrr := hI.reach h0 h1 hg
  have p1 : rPl r (100 + c) := Or.inr ⟨by omega, by omega⟩
  have p2 : rPl r (c + g) := Or.inl ⟨by omega, by omega⟩
  obtain ⟨wo1, wm1, -, -, -, -⟩ := hI.wat ht p1
  obtain ⟨wo2, wm2, -, -, -, -⟩ := hI.wat ht p2
  have dp1 := hI.dp wo1 wm1
  have dp2 := hI.dp wo2 wm2
  show JX _ _ _ _ _ _ _ _ _ _ _ [_, _, _] _ _
  refine x_aload_n dX8_doOpen_0 rfl ?_
  refine x_iload_n dX8_doOpen_1 rfl ?_
  refine x_iload_n dX8_doOpen_2 rfl ?_
  refine c_RX8_113d dX8_doOpen_3 rfl (kX8_noGate hM0 hr0 ⟨by omega, by omega⟩ ⟨by omega, by omega⟩ (by omega)) (by assumption) (Nat.le_of_ble_eq_true rfl) (Nat.le_of_ble_eq_true rfl) ⟨Nat.le_refl _, Nat.le_refl _⟩ ?_
  refine x_if_eq (tgt := 12) dX8_doOpen_6 (by decide) ⟨by split <;> omega, by split <;> omega⟩ (fun hb6 => ?_) (fun hz => (hz (by rw [if_pos ⟨⟨h0, h1⟩, hg⟩])).elim)
  refine x_aload_n dX8_doOpen_12 rfl ?_
  refine x_iload_n dX8_doOpen_13 rfl ?_
  refine c_RX8_92d dX8_doOpen_14 rfl (kX8_openGate hM0 hr0 h0 (by omega)) (by assumption) (Nat.le_of_ble_eq_true rfl) (Nat.le_of_ble_eq_true rfl) ⟨Nat.le_refl _, Nat.le_refl _⟩ ?_
  refine x_if_lt (tgt := 26) dX8_doOpen_17 (by decide) ⟨by omega, by omega⟩ (fun hb17 => ?_) (fun h => (h (by omega)).elim)
  refine x_aload_n dX8_doOpen_26 rfl ?_
  refine x_bipush dX8_doOpen_27 (by decide) ?_
  refine x_iload_n dX8_doOpen_29 rfl ?_
  refine x_iadd dX8_doOpen_30 ?_
  refine c_RX8_126d dX8_doOpen_31 rfl (kX8_level hM0 hr0 hI ht p1) (by assumption) (Nat.le_of_ble_eq_true rfl) (Nat.le_of_ble_eq_true rfl) ⟨Nat.le_refl _, Nat.le_refl _⟩ ?_
  refine x_aload_n dX8_doOpen_34 rfl ?_
  refine x_iload_n dX8_doOpen_35 rfl ?_
  refine x_iload_n dX8_doOpen_36 rfl ?_
  refine x_iadd dX8_doOpen_37 ?_
  refine c_RX8_126d dX8_doOpen_38 rfl (kX8_level hM0 hr0 hI ht p2) (by assumption) (Nat.le_of_ble_eq_true rfl) (Nat.le_of_ble_eq_true rfl) ⟨Nat.le_refl _, Nat.le_refl _⟩ ?_
  refine x_isub dX8_doOpen_41 ?_
  refine x_bipush dX8_doOpen_42 (by decide) ?_
  refine x_iconst dX8_doOpen_44 ?_
  refine c_RX8_49d dX8_doOpen_45 rfl (kX8_in ⟨by omega, by omega⟩ ⟨by omega, by omega⟩ ⟨by omega, by omega⟩) (Nat.le_of_ble_eq_true rfl) (Nat.le_of_ble_eq_true rfl) ⟨Nat.le_refl _, Nat.le_refl _⟩ ?_
  refine x_if_ne (tgt := 57) dX8_doOpen_48 (by decide) ⟨by split <;> omega, by split <;> omega⟩ (fun hb48 => ?_) (fun h => (h (by omega)).elim)
  refine x_aload_n dX8_doOpen_57 rfl ?_
  refine gf_RX8_7 dX8_doOpen_58 rfl (by assumption) ?_
  rw [m0]
  refine x_bipush dX8_doOpen_61 (by decide) ?_
  refine x_bipush dX8_doOpen_63 (by decide) ?_
  refine x_iload_n dX8_doOpen_65 rfl ?_
  refine x_imul dX8_doOpen_66 ?_
  refine x_iadd dX8_doOpen_67 ?_
  refine x_bipush dX8_doOpen_68 (by decide) ?_
  refine x_iadd dX8_doOpen_70 ?_
  rw [show 21 + 11 * c + 8 = 29 + 11 * c by omega]
  refine x_iload_n dX8_doOpen_71 rfl ?_
  refine x_iast dX8_doOpen_72 (by assumption) ⟨by omega, by omega⟩ ?_
  refine x_iconst dX8_doOpen_73 ?_
  exact x_ireturn dX8_doOpen_74 rfl rfl ⟨Nat.le_refl _, Nat.le_refl _⟩ ⟨rfl, _, rfl, jDo_some hr⟩
theorem kX8_doSluice {G : JG} {S : JS} {D : JD} {d : Nat} {M t : Int} {r : Int → Int} {c g : Int} (hM : jMo S M) (hr : D (M + 1) = r) (hI : rIn t r) (ht : t ≤ 60000) (rc : i32 c) (rg : i32 g) : JM G yX8_doSluice cX8_doSluice 3 (some .int) (d + 5) (0, 0) S D [.inr (.inr (some M)), .inl c, .inl g] (jrP S (jDo D M r (zDoSluice c g r))) := by
  unfold zDoSluice
  by_cases h : (0 ≤ c ∧ c < r 1) ∧ (g = 0 ∨ g = 1)
  · rw [if_pos h]
    by_cases hv : r (29 + 11 * c) < 0
    · rw [if_pos hv]; exact kX8_doSluice_y hM hr hI ht h.1.1 h.1.2 h.2 hv
    · rw [if_neg hv]; exact kX8_doSluice_r hM hr hI ht h.1.1 h.1.2 h.2 hv
  · rw [if_neg h]; exact kX8_doSluice_u hM hr hI ht rc rg h
theorem kX8_doOpen {G : JG} {S : JS} {D : JD} {d : Nat} {M t : Int} {r : Int → Int} {c g : Int} (hM : jMo S M) (hr : D (M + 1) = r) (hI : rIn t r) (ht : t ≤ 60000) (rc : i32 c) (rg : i32 g) : JM G yX8_doOpen cX8_doOpen 3 (some .int) (d + 5) (0, 0) S D [.inr (.inr (some M)), .inl c, .inl g] (jrP S (jDo D M r (zDoOpen c g r))) := by
  unfold zDoOpen
  by_cases h : (0 ≤ c ∧ c < r 1) ∧ (g = 0 ∨ g = 1)
  · rw [if_pos h]
    by_cases hv : r (29 + 11 * c) < 0
    · rw [if_pos hv]
      by_cases hl : sLv r (100 + c) - sLv r (c + g) ≤ 2 ∧ sLv r (c + g) - sLv r (100 + c) ≤ 2
      · rw [if_pos hl]; exact kX8_doOpen_y hM hr hI ht h.1.1 h.1.2 h.2 hv hl
      · rw [if_neg hl]; exact kX8_doOpen_l hM hr hI ht h.1.1 h.1.2 h.2 hv hl
    · rw [if_neg hv]; exact kX8_doOpen_r hM hr hI ht h.1.1 h.1.2 h.2 hv
  · rw [if_neg h]; exact kX8_doOpen_u hM hr hI ht rc rg h
theorem kX8_doLoad_u {G : JG} {S : JS} {D : JD} {d : Nat} {M t : Int} {r : Int → Int} {k v : Int} (hM : jMo S M) (hr : D (M + 1) = r) (hI : rIn t r) (ht : t ≤ 60000) (rk : i32 k) (rv : i32 v) (h : ¬ (0 ≤ k ∧ k < r 2)) : JM G yX8_doLoad cX8_doLoad 3 (some .int) (d + 3) (0, 0) S D [.inr (.inr (some M)), .inl k, .inl v] (jrP S (jDo D M r (-100000001, none, 0))) := by
  have hM0 := hM
  obtain ⟨mk, m0, m1, m2, m4, m5, m8, m12, y1, l1, y2, l2, y3, l3, y4, l4, y5, l5, y6, l6, y7, l7⟩ := id hM
  have hr0 := hr
  have b1 := hI.1
  show JX _ _ _ _ _ _ _ _ _ _ _ [_, _, _] _ _
  refine x_aload_n dX8_doLoad_0 rfl ?_
  refine x_iload_n dX8_doLoad_1 rfl ?_
  refine c_RX8_132d dX8_doLoad_2 rfl (kX8_noBarge hM0 hr0 rk (by omega)) (by assumption) (Nat.le_of_ble_eq_true rfl) (Nat.le_of_ble_eq_true rfl) ⟨Nat.le_refl _, Nat.le_refl _⟩ ?_
  refine x_if_eq (tgt := 11) dX8_doLoad_5 (by decide) ⟨by split <;> omega, by split <;> omega⟩ (fun h => absurd h (by omega)) (fun hb5 => ?_)
  refine x_ldc (e := -100000001) dX8_doLoad_8 ct_RX8_41 (by decide) ?_
  exact x_ireturn dX8_doLoad_10 rfl rfl ⟨Nat.le_refl _, Nat.le_refl _⟩ ⟨rfl, _, rfl, jDo_none hr⟩
theorem kX8_doLoad_b {G : JG} {S : JS} {D : JD} {d : Nat} {M t : Int} {r : Int → Int} {k v : Int} (hM : jMo S M) (hr : D (M + 1) = r) (hI : rIn t r) (ht : t ≤ 60000) (k0 : 0 ≤ k) (k1 : k < r 2) (rv : i32 v) (h : ¬ (v ≠ 0 ∧ -1000 ≤ v ∧ v ≤ 1000)) : JM G yX8_doLoad cX8_doLoad 3 (some .int) (d + 3) (0, 0) S D [.inr (.inr (some M)), .inl k, .inl v] (jrP S (jDo D M r (-100000002, none, 0))) := by
  have hM0 := hM
  obtain ⟨mk, m0, m1, m2, m4, m5, m8, m12, y1, l1, y2, l2, y3, l3, y4, l4, y5, l5, y6, l6, y7, l7⟩ := id hM
  have hr0 := hr
  have b1 := hI.1
  show JX _ _ _ _ _ _ _ _ _ _ _ [_, _, _] _ _
  refine x_aload_n dX8_doLoad_0 rfl ?_
  refine x_iload_n dX8_doLoad_1 rfl ?_
  refine c_RX8_132d dX8_doLoad_2 rfl (kX8_noBarge hM0 hr0 ⟨by omega, by omega⟩ (by omega)) (by assumption) (Nat.le_of_ble_eq_true rfl) (Nat.le_of_ble_eq_true rfl) ⟨Nat.le_refl _, Nat.le_refl _⟩ ?_
  refine x_if_eq (tgt := 11) dX8_doLoad_5 (by decide) ⟨by split <;> omega, by split <;> omega⟩ (fun hb5 => ?_) (fun h => (h (by omega)).elim)
  refine x_iload_n dX8_doLoad_11 rfl ?_
  refine c_RX8_135d dX8_doLoad_12 rfl (kX8_isTons rv) (Nat.le_of_ble_eq_true rfl) (Nat.le_of_ble_eq_true rfl) ⟨Nat.le_refl _, Nat.le_refl _⟩ ?_
  refine x_if_ne (tgt := 21) dX8_doLoad_15 (by decide) ⟨by split <;> omega, by split <;> omega⟩ (fun h => absurd h (by omega)) (fun hb15 => ?_)
  refine x_ldc (e := -100000002) dX8_doLoad_18 ct_RX8_104 (by decide) ?_
  exact x_ireturn dX8_doLoad_20 rfl rfl ⟨Nat.le_refl _, Nat.le_refl _⟩ ⟨rfl, _, rfl, jDo_none hr⟩
theorem kX8_doPump_u {G : JG} {S : JS} {D : JD} {d : Nat} {M t : Int} {r : Int → Int} {k v : Int} (hM : jMo S M) (hr : D (M + 1) = r) (hI : rIn t r) (ht : t ≤ 60000) (rk : i32 k) (rv : i32 v) (h : ¬ (0 ≤ k ∧ k < r 2)) : JM G yX8_doPump cX8_doPump 4 (some .int) (d + 3) (0, 0) S D [.inr (.inr (some M)), .inl k, .inl v] (jrP S (jDo D M r (-100000001, none, 0))) := by
  have hM0 := hM
  obtain ⟨mk, m0, m1, m2, m4, m5, m8, m12, y1, l1, y2, l2, y3, l3, y4, l4, y5, l5, y6, l6, y7, l7⟩ := id hM
  have hr0 := hr
  have b1 := hI.1
  show JX _ _ _ _ _ _ _ _ _ _ _ [_, _, _, _] _ _
  refine x_aload_n dX8_doPump_0 rfl ?_
  refine x_iload_n dX8_doPump_1 rfl ?_
  refine c_RX8_132d dX8_doPump_2 rfl (kX8_noBarge hM0 hr0 rk (by omega)) (by assumption) (Nat.le_of_ble_eq_true rfl) (Nat.le_of_ble_eq_true rfl) ⟨Nat.le_refl _, Nat.le_refl _⟩ ?_
  refine x_if_eq (tgt := 11) dX8_doPump_5 (by decide) ⟨by split <;> omega, by split <;> omega⟩ (fun h => absurd h (by omega)) (fun hb5 => ?_)
  refine x_ldc (e := -100000001) dX8_doPump_8 ct_RX8_41 (by decide) ?_
  exact x_ireturn dX8_doPump_10 rfl rfl ⟨Nat.le_refl _, Nat.le_refl _⟩ ⟨rfl, _, rfl, jDo_none hr⟩
theorem kX8_doPump_b {G : JG} {S : JS} {D : JD} {d : Nat} {M t : Int} {r : Int → Int} {k v : Int} (hM : jMo S M) (hr : D (M + 1) = r) (hI : rIn t r) (ht : t ≤ 60000) (k0 : 0 ≤ k) (k1 : k < r 2) (rv : i32 v) (h : ¬ (v ≠ 0 ∧ -1000 ≤ v ∧ v ≤ 1000)) : JM G yX8_doPump cX8_doPump 4 (some .int) (d + 3) (0, 0) S D [.inr (.inr (some M)), .inl k, .inl v] (jrP S (jDo D M r (-100000002, none, 0))) := by
  have hM0 := hM
  obtain ⟨mk, m0, m1, m2, m4, m5, m8, m12, y1, l1, y2, l2, y3, l3, y4, l4, y5, l5, y6, l6, y7, l7⟩ := id hM
  have hr0 := hr
  have b1 := hI.1
  show JX _ _ _ _ _ _ _ _ _ _ _ [_, _, _, _] _ _
  refine x_aload_n dX8_doPump_0 rfl ?_
  refine x_iload_n dX8_doPump_1 rfl ?_
  refine c_RX8_132d dX8_doPump_2 rfl (kX8_noBarge hM0 hr0 ⟨by omega, by omega⟩ (by omega)) (by assumption) (Nat.le_of_ble_eq_true rfl) (Nat.le_of_ble_eq_true rfl) ⟨Nat.le_refl _, Nat.le_refl _⟩ ?_
  refine x_if_eq (tgt := 11) dX8_doPump_5 (by decide) ⟨by split <;> omega, by split <;> omega⟩ (fun hb5 => ?_) (fun h => (h (by omega)).elim)
  refine x_iload_n dX8_doPump_11 rfl ?_
  refine c_RX8_135d dX8_doPump_12 rfl (kX8_isTons rv) (Nat.le_of_ble_eq_true rfl) (Nat.le_of_ble_eq_true rfl) ⟨Nat.le_refl _, Nat.le_refl _⟩ ?_
  refine x_if_ne (tgt := 21) dX8_doPump_15 (by decide) ⟨by split <;> omega, by split <;> omega⟩ (fun h => absurd h (by omega)) (fun hb15 => ?_)
  refine x_ldc (e := -100000002) dX8_doPump_18 ct_RX8_104 (by decide) ?_
  exact x_ireturn dX8_doPump_20 rfl rfl ⟨Nat.le_refl _, Nat.le_refl _⟩ ⟨rfl, _, rfl, jDo_none hr⟩
theorem kX8_doLoad_n {G : JG} {S : JS} {D : JD} {d : Nat} {M t : Int} {r : Int → Int} {k v : Int} (hM : jMo S M) (hr : D (M + 1) = r) (hI : rIn t r) (ht : t ≤ 60000) (k0 : 0 ≤ k) (k1 : k < r 2) (rv : i32 v) (h : v ≠ 0 ∧ -1000 ≤ v ∧ v ≤ 1000) (hp : 100 ≤ r (71 + 8 * k)) : JM G yX8_doLoad cX8_doLoad 3 (some .int) (d + 3) (0, 0) S D [.inr (.inr (some M)), .inl k, .inl v] (jrP S (jDo D M r (-100000003, none, 4))) := by
  have hM0 := hM
  obtain ⟨mk, m0, m1, m2, m4, m5, m8, m12, y1, l1, y2, l2, y3, l3, y4, l4, y5, l5, y6, l6, y7, l7⟩ := id hM
  have hr0 := hr
  have b1 := hI.1
  obtain ⟨bp, w0, w1, i0, i1, d0, d1⟩ := hI.bw k0 k1
  have bl := bp.lin hI 0
  have bo := hI.2.2.2.1 k k0 k1
  unfold rBo at bo
  show JX _ _ _ _ _ _ _ _ _ _ _ [_, _, _] _ _
  refine x_aload_n dX8_doLoad_0 rfl ?_
  refine x_iload_n dX8_doLoad_1 rfl ?_
  refine c_RX8_132d dX8_doLoad_2 rfl (kX8_noBarge hM0 hr0 ⟨by omega, by omega⟩ (by omega)) (by assumption) (Nat.le_of_ble_eq_true rfl) (Nat.le_of_ble_eq_true rfl) ⟨Nat.le_refl _, Nat.le_refl _⟩ ?_
  refine x_if_eq (tgt := 11) dX8_doLoad_5 (by decide) ⟨by split <;> omega, by split <;> omega⟩ (fun hb5 => ?_) (fun h => (h (by omega)).elim)
  refine x_iload_n dX8_doLoad_11 rfl ?_
  refine c_RX8_135d dX8_doLoad_12 rfl (kX8_isTons rv) (Nat.le_of_ble_eq_true rfl) (Nat.le_of_ble_eq_true rfl) ⟨Nat.le_refl _, Nat.le_refl _⟩ ?_
  refine x_if_ne (tgt := 21) dX8_doLoad_15 (by decide) ⟨by split <;> omega, by split <;> omega⟩ (fun hb15 => ?_) (fun h => (h (by omega)).elim)
  refine x_aload_n dX8_doLoad_21 rfl ?_
  refine x_iload_n dX8_doLoad_22 rfl ?_
  refine x_bipush dX8_doLoad_23 (by decide) ?_
  refine c_RX8_60d dX8_doLoad_25 rfl (kX8_of hM0 hr0 (by omega) (by omega)) (by assumption) (Nat.le_of_ble_eq_true rfl) (Nat.le_of_ble_eq_true rfl) ⟨Nat.le_refl _, Nat.le_refl _⟩ ?_
  rw [show 65 + 8 * k + 6 = 71 + 8 * k by omega]
  refine x_bipush dX8_doLoad_28 (by decide) ?_
  refine x_ic_lt (tgt := 39) dX8_doLoad_30 (by decide) ⟨by omega, by omega⟩ ⟨by omega, by omega⟩ (fun h => absurd h (by omega)) (fun hb30 => ?_)
  refine x_aload_n dX8_doLoad_33 rfl ?_
  refine x_iconst dX8_doLoad_34 ?_
  refine c_RX8_123d dX8_doLoad_35 rfl (kX8_refuse hM0) (by assumption) (Nat.le_of_ble_eq_true rfl) (Nat.le_of_ble_eq_true rfl) ⟨Nat.le_refl _, Nat.le_refl _⟩ ?_
  exact x_ireturn dX8_doLoad_38 rfl rfl ⟨Nat.le_refl _, Nat.le_refl _⟩ ⟨rfl, _, rfl, jDo_ref hr (by decide)⟩
theorem kX8_doLoad_r1 {G : JG} {S : JS} {D : JD} {d : Nat} {M t : Int} {r : Int → Int} {k v : Int} (hM : jMo S M) (hr : D (M + 1) = r) (hI : rIn t r) (ht : t ≤ 60000) (k0 : 0 ≤ k) (k1 : k < r 2) (rv : i32 v) (h : v ≠ 0 ∧ -1000 ≤ v ∧ v ≤ 1000) (hp : ¬ 100 ≤ r (71 + 8 * k)) (hv : (r (68 + 8 * k) - r (69 + 8 * k) - r (70 + 8 * k)) < v) : JM G yX8_doLoad cX8_doLoad 3 (some .int) (d + 3) (0, 0) S D [.inr (.inr (some M)), .inl k, .inl v] (jrP S (jDo D M r (-100000003, none, 8))) := by
  have hM0 := hM
  obtain ⟨mk, m0, m1, m2, m4, m5, m8, m12, y1, l1, y2, l2, y3, l3, y4, l4, y5, l5, y6, l6, y7, l7⟩ := id hM
  have hr0 := hr
  have b1 := hI.1
  obtain ⟨bp, w0, w1, i0, i1, d0, d1⟩ := hI.bw k0 k1
  have bl := bp.lin hI 0
  have bo := hI.2.2.2.1 k k0 k1
  unfold rBo at bo
  show JX _ _ _ _ _ _ _ _ _ _ _ [_, _, _] _ _
  refine x_aload_n dX8_doLoad_0 rfl ?_
  refine x_iload_n dX8_doLoad_1 rfl ?_
  refine c_RX8_132d dX8_doLoad_2 rfl (kX8_noBarge hM0 hr0 ⟨by omega, by omega⟩ (by omega)) (by assumption) (Nat.le_of_ble_eq_true rfl) (Nat.le_of_ble_eq_true rfl) ⟨Nat.le_refl _, Nat.le_refl _⟩ ?_
  refine x_if_eq (tgt := 11) dX8_doLoad_5 (by decide) ⟨by split <;> omega, by split <;> omega⟩ (fun hb5 => ?_) (fun h => (h (by omega)).elim)
  refine x_iload_n dX8_doLoad_11 rfl ?_
  refine c_RX8_135d dX8_doLoad_12 rfl (kX8_isTons rv) (Nat.le_of_ble_eq_true rfl) (Nat.le_of_ble_eq_true rfl) ⟨Nat.le_refl _, Nat.le_refl _⟩ ?_
  refine x_if_ne (tgt := 21) dX8_doLoad_15 (by decide) ⟨by split <;> omega, by split <;> omega⟩ (fun hb15 => ?_) (fun h => (h (by omega)).elim)
  refine x_aload_n dX8_doLoad_21 rfl ?_
  refine x_iload_n dX8_doLoad_22 rfl ?_
  refine x_bipush dX8_doLoad_23 (by decide) ?_
  refine c_RX8_60d dX8_doLoad_25 rfl (kX8_of hM0 hr0 (by omega) (by omega)) (by assumption) (Nat.le_of_ble_eq_true rfl) (Nat.le_of_ble_eq_true rfl) ⟨Nat.le_refl _, Nat.le_refl _⟩ ?_
  rw [show 65 + 8 * k + 6 = 71 + 8 * k by omega]
  refine x_bipush dX8_doLoad_28 (by decide) ?_
  refine x_ic_lt (tgt := 39) dX8_doLoad_30 (by decide) ⟨by omega, by omega⟩ ⟨by omega, by omega⟩ (fun hb30 => ?_) (fun h => (h (by omega)).elim)
  refine x_iload_n dX8_doLoad_39 rfl ?_
  refine x_aload_n dX8_doLoad_40 rfl ?_
  refine x_iload_n dX8_doLoad_41 rfl ?_
  refine c_RX8_138d dX8_doLoad_42 rfl (kX8_room hM0 hr0 k0 (by omega)) (by assumption) (Nat.le_of_ble_eq_true rfl) (Nat.le_of_ble_eq_true rfl) ⟨Nat.le_refl _, Nat.le_refl _⟩ ?_
  refine x_ic_gt (tgt := 59) dX8_doLoad_45 (by decide) ⟨by omega, by omega⟩ ⟨by omega, by omega⟩ (fun hb45 => ?_) (fun h => (h (by omega)).elim)
  refine x_aload_n dX8_doLoad_59 rfl ?_
  refine x_bipush dX8_doLoad_60 (by decide) ?_
  refine c_RX8_123d dX8_doLoad_62 rfl (kX8_refuse hM0) (by assumption) (Nat.le_of_ble_eq_true rfl) (Nat.le_of_ble_eq_true rfl) ⟨Nat.le_refl _, Nat.le_refl _⟩ ?_
  exact x_ireturn dX8_doLoad_65 rfl rfl ⟨Nat.le_refl _, Nat.le_refl _⟩ ⟨rfl, _, rfl, jDo_ref hr (by decide)⟩
theorem kX8_doLoad_r2 {G : JG} {S : JS} {D : JD} {d : Nat} {M t : Int} {r : Int → Int} {k v : Int} (hM : jMo S M) (hr : D (M + 1) = r) (hI : rIn t r) (ht : t ≤ 60000) (k0 : 0 ≤ k) (k1 : k < r 2) (rv : i32 v) (h : v ≠ 0 ∧ -1000 ≤ v ∧ v ≤ 1000) (hp : ¬ 100 ≤ r (71 + 8 * k)) (hv : ¬ (r (68 + 8 * k) - r (69 + 8 * k) - r (70 + 8 * k)) < v) (hw : r (69 + 8 * k) + v < 0) : JM G yX8_doLoad cX8_doLoad 3 (some .int) (d + 3) (0, 0) S D [.inr (.inr (some M)), .inl k, .inl v] (jrP S (jDo D M r (-100000003, none, 8))) := by
  have hM0 := hM
  obtain ⟨mk, m0, m1, m2, m4, m5, m8, m12, y1, l1, y2, l2, y3, l3, y4, l4, y5, l5, y6, l6, y7, l7⟩ := id hM
  have hr0 := hr
  have b1 := hI.1
  obtain ⟨bp, w0, w1, i0, i1, d0, d1⟩ := hI.bw k0 k1
  have bl := bp.lin hI 0
  have bo := hI.2.2.2.1 k k0 k1
  unfold rBo at bo
  show JX _ _ _ _ _ _ _ _ _ _ _ [_, _, _] _ _
  refine x_aload_n dX8_doLoad_0 rfl ?_
  refine x_iload_n dX8_doLoad_1 rfl ?_
  refine c_RX8_132d dX8_doLoad_2 rfl (kX8_noBarge hM0 hr0 ⟨by omega, by omega⟩ (by omega)) (by assumption) (Nat.le_of_ble_eq_true rfl) (Nat.le_of_ble_eq_true rfl) ⟨Nat.le_refl _, Nat.le_refl _⟩ ?_
  refine x_if_eq (tgt := 11) dX8_doLoad_5 (by decide) ⟨by split <;> omega, by split <;> omega⟩ (fun hb5 => ?_) (fun h => (h (by omega)).elim)
  refine x_iload_n dX8_doLoad_11 rfl ?_
  refine c_RX8_135d dX8_doLoad_12 rfl (kX8_isTons rv) (Nat.le_of_ble_eq_true rfl) (Nat.le_of_ble_eq_true rfl) ⟨Nat.le_refl _, Nat.le_refl _⟩ ?_
  refine x_if_ne (tgt := 21) dX8_doLoad_15 (by decide) ⟨by split <;> omega, by split <;> omega⟩ (fun hb15 => ?_) (fun h => (h (by omega)).elim)
  refine x_aload_n dX8_doLoad_21 rfl ?_
  refine x_iload_n dX8_doLoad_22 rfl ?_
  refine x_bipush dX8_doLoad_23 (by decide) ?_
  refine c_RX8_60d dX8_doLoad_25 rfl (kX8_of hM0 hr0 (by omega) (by omega)) (by assumption) (Nat.le_of_ble_eq_true rfl) (Nat.le_of_ble_eq_true rfl) ⟨Nat.le_refl _, Nat.le_refl _⟩ ?_
  rw [show 65 + 8 * k + 6 = 71 + 8 * k by omega]
  refine x_bipush dX8_doLoad_28 (by decide) ?_
  refine x_ic_lt (tgt := 39) dX8_doLoad_30 (by decide) ⟨by omega, by omega⟩ ⟨by omega, by omega⟩ (fun hb30 => ?_) (fun h => (h (by omega)).elim)
  refine x_iload_n dX8_doLoad_39 rfl ?_
  refine x_aload_n dX8_doLoad_40 rfl ?_
  refine x_iload_n dX8_doLoad_41 rfl ?_
  refine c_RX8_138d dX8_doLoad_42 rfl (kX8_room hM0 hr0 k0 (by omega)) (by assumption) (Nat.le_of_ble_eq_true rfl) (Nat.le_of_ble_eq_true rfl) ⟨Nat.le_refl _, Nat.le_refl _⟩ ?_
  refine x_ic_gt (tgt := 59) dX8_doLoad_45 (by decide) ⟨by omega, by omega⟩ ⟨by omega, by omega⟩ (fun h => absurd h (by omega)) (fun hb45 => ?_)
  refine x_aload_n dX8_doLoad_48 rfl ?_
  refine x_iload_n dX8_doLoad_49 rfl ?_
  refine x_iconst dX8_doLoad_50 ?_
  refine c_RX8_60d dX8_doLoad_51 rfl (kX8_of hM0 hr0 (by omega) (by omega)) (by assumption) (Nat.le_of_ble_eq_true rfl) (Nat.le_of_ble_eq_true rfl) ⟨Nat.le_refl _, Nat.le_refl _⟩ ?_
  rw [show 65 + 8 * k + 4 = 69 + 8 * k by omega]
  refine x_iload_n dX8_doLoad_54 rfl ?_
  refine x_iadd dX8_doLoad_55 ?_
  refine x_if_ge (tgt := 66) dX8_doLoad_56 (by decide) ⟨by omega, by omega⟩ (fun h => absurd h (by omega)) (fun hb56 => ?_)
  refine x_aload_n dX8_doLoad_59 rfl ?_
  refine x_bipush dX8_doLoad_60 (by decide) ?_
  refine c_RX8_123d dX8_doLoad_62 rfl (kX8_refuse hM0) (by assumption) (Nat.le_of_ble_eq_true rfl) (Nat.le_of_ble_eq_true rfl) ⟨Nat.le_refl _, Nat.le_refl _⟩ ?_
  exact x_ireturn dX8_doLoad_65 rfl rfl ⟨Nat.le_refl _, Nat.le_refl _⟩ ⟨rfl, _, rfl, jDo_ref hr (by decide)⟩
theorem kX8_doLoad_y {G : JG} {S : JS} {D : JD} {d : Nat} {M t : Int} {r : Int → Int} {k v : Int} (hM : jMo S M) (hr : D (M + 1) = r) (hI : rIn t r) (ht : t ≤ 60000) (k0 : 0 ≤ k) (k1 : k < r 2) (rv : i32 v) (h : v ≠ 0 ∧ -1000 ≤ v ∧ v ≤ 1000) (hp : ¬ 100 ≤ r (71 + 8 * k)) (hv : 0 ≤ r (69 + 8 * k) + v ∧ v ≤ r (68 + 8 * k) - r (69 + 8 * k) - r (70 + 8 * k)) : JM G yX8_doLoad cX8_doLoad 3 (some .int) (d + 3) (0, 0) S D [.inr (.inr (some M)), .inl k, .inl v] (jrP S (jDo D M r (sDr (rLoad k v r) k, some (rLoad k v r), 0))) := by
  have hM0 := hM
  obtain ⟨mk, m0, m1, m2, m4, m5, m8, m12, y1, l1, y2, l2, y3, l3, y4, l4, y5, l5, y6, l6, y7, l7⟩ := id hM
  have hr0 := hr
  have b1 := hI.1
  obtain ⟨bp, w0, w1, i0, i1, d0, d1⟩ := hI.bw k0 k1
  have bl := bp.lin hI 0
  have bo := hI.2.2.2.1 k k0 k1
  unfold rBo at bo
  show JX _ _ _ _ _ _ _ _ _ _ _ [_, _, _] _ _
  refine x_aload_n dX8_doLoad_0 rfl ?_
  refine x_iload_n dX8_doLoad_1 rfl ?_
  refine c_RX8_132d dX8_doLoad_2 rfl (kX8_noBarge hM0 hr0 ⟨by omega, by omega⟩ (by omega)) (by assumption) (Nat.le_of_ble_eq_true rfl) (Nat.le_of_ble_eq_true rfl) ⟨Nat.le_refl _, Nat.le_refl _⟩ ?_
  refine x_if_eq (tgt := 11) dX8_doLoad_5 (by decide) ⟨by split <;> omega, by split <;> omega⟩ (fun hb5 => ?_) (fun h => (h (by omega)).elim)
  refine x_iload_n dX8_doLoad_11 rfl ?_
  refine c_RX8_135d dX8_doLoad_12 rfl (kX8_isTons rv) (Nat.le_of_ble_eq_true rfl) (Nat.le_of_ble_eq_true rfl) ⟨Nat.le_refl _, Nat.le_refl _⟩ ?_
  refine x_if_ne (tgt := 21) dX8_doLoad_15 (by decide) ⟨by split <;> omega, by split <;> omega⟩ (fun hb15 => ?_) (fun h => (h (by omega)).elim)
  refine x_aload_n dX8_doLoad_21 rfl ?_
  refine x_iload_n dX8_doLoad_22 rfl ?_
  refine x_bipush dX8_doLoad_23 (by decide) ?_
  refine c_RX8_60d dX8_doLoad_25 rfl (kX8_of hM0 hr0 (by omega) (by omega)) (by assumption) (Nat.le_of_ble_eq_true rfl) (Nat.le_of_ble_eq_true rfl) ⟨Nat.le_refl _, Nat.le_refl _⟩ ?_
  rw [show 65 + 8 * k + 6 = 71 + 8 * k by omega]
  refine x_bipush dX8_doLoad_28 (by decide) ?_
  refine x_ic_lt (tgt := 39) dX8_doLoad_30 (by decide) ⟨by omega, by omega⟩ ⟨by omega, by omega⟩ (fun hb30 => ?_) (fun h => (h (by omega)).elim)
  refine x_iload_n dX8_doLoad_39 rfl ?_
  refine x_aload_n dX8_doLoad_40 rfl ?_
  refine x_iload_n dX8_doLoad_41 rfl ?_
  refine c_RX8_138d dX8_doLoad_42 rfl (kX8_room hM0 hr0 k0 (by omega)) (by assumption) (Nat.le_of_ble_eq_true rfl) (Nat.le_of_ble_eq_true rfl) ⟨Nat.le_refl _, Nat.le_refl _⟩ ?_
  refine x_ic_gt (tgt := 59) dX8_doLoad_45 (by decide) ⟨by omega, by omega⟩ ⟨by omega, by omega⟩ (fun h => absurd h (by omega)) (fun hb45 => ?_)
  refine x_aload_n dX8_doLoad_48 rfl ?_
  refine x_iload_n dX8_doLoad_49 rfl ?_
  refine x_iconst dX8_doLoad_50 ?_
  refine c_RX8_60d dX8_doLoad_51 rfl (kX8_of hM0 hr0 (by omega) (by omega)) (by assumption) (Nat.le_of_ble_eq_true rfl) (Nat.le_of_ble_eq_true rfl) ⟨Nat.le_refl _, Nat.le_refl _⟩ ?_
  rw [show 65 + 8 * k + 4 = 69 + 8 * k by omega]
  refine x_iload_n dX8_doLoad_54 rfl ?_
  refine x_iadd dX8_doLoad_55 ?_
  refine x_if_ge (tgt := 66) dX8_doLoad_56 (by decide) ⟨by omega, by omega⟩ (fun hb56 => ?_) (fun h => (h (by omega)).elim)
  refine x_aload_n dX8_doLoad_66 rfl ?_
  refine x_iload_n dX8_doLoad_67 rfl ?_
  refine x_iconst dX8_doLoad_68 ?_
  refine x_aload_n dX8_doLoad_69 rfl ?_
  refine x_iload_n dX8_doLoad_70 rfl ?_
  refine x_iconst dX8_doLoad_71 ?_
  refine c_RX8_60d dX8_doLoad_72 rfl (kX8_of hM0 hr0 (by omega) (by omega)) (by assumption) (Nat.le_of_ble_eq_true rfl) (Nat.le_of_ble_eq_true rfl) ⟨Nat.le_refl _, Nat.le_refl _⟩ ?_
  rw [show 65 + 8 * k + 4 = 69 + 8 * k by omega]
  refine x_iload_n dX8_doLoad_75 rfl ?_
  refine x_iadd dX8_doLoad_76 ?_
  refine c_RX8_129d dX8_doLoad_77 rfl (kX8_put hM0 hr0 (by omega) (by omega)) (by assumption) (Nat.le_of_ble_eq_true rfl) (Nat.le_of_ble_eq_true rfl) ⟨Nat.le_refl _, Nat.le_refl _⟩ ?_
  rw [show 65 + 8 * k + 4 = 69 + 8 * k by omega]
  have hr2 : (jup D (M + 1) (69 + 8 * k) (r (69 + 8 * k) + v)) (M + 1) = rLoad k v r := by rw [jup_row, hr]; rfl
  have hI2 := hI.load k0 k1 hv
  have e2 : rLoad k v r 2 = r 2 := rup_ne (by omega)
  refine x_aload_n dX8_doLoad_80 rfl ?_
  refine x_iload_n dX8_doLoad_81 rfl ?_
  refine c_RX8_79d dX8_doLoad_82 rfl (kX8_draught hM0 hr2 hI2 ht k0 (by rw [e2]; omega)) (by assumption) (Nat.le_of_ble_eq_true rfl) (Nat.le_of_ble_eq_true rfl) ⟨Nat.le_refl _, Nat.le_refl _⟩ ?_
  exact x_ireturn dX8_doLoad_85 rfl rfl ⟨Nat.le_refl _, Nat.le_refl _⟩ ⟨rfl, _, rfl, jDo_put hr2 (fun x hx => jup_off hx)⟩
theorem kX8_doLoad {G : JG} {S : JS} {D : JD} {d : Nat} {M t : Int} {r : Int → Int}  {k v : Int} (hM : jMo S M) (hr : D (M + 1) = r) (hI : rIn t r) (ht : t ≤ 60000) (rk : i32 k) (rv : i32 v) : JM G yX8_doLoad cX8_doLoad 3 (some .int) (d + 3) (0, 0) S D [.inr (.inr (some M)), .inl k, .inl v] (jrP S (jDo D M r (zLoad k v r))) := by
  unfold zLoad
  by_cases h : 0 ≤ k ∧ k < r 2
  · rw [if_pos h]
    by_cases hv : v ≠ 0 ∧ -1000 ≤ v ∧ v ≤ 1000
    · rw [if_pos hv]
      by_cases hp : 100 ≤ r (71 + 8 * k)
      · rw [if_pos hp]; exact kX8_doLoad_n hM hr hI ht h.1 h.2 rv hv hp
      · rw [if_neg hp]
        by_cases hw : 0 ≤ r (69 + 8 * k) + v ∧ v ≤ r (68 + 8 * k) - r (69 + 8 * k) - r (70 + 8 * k)
        · rw [if_pos hw]; exact kX8_doLoad_y hM hr hI ht h.1 h.2 rv hv hp hw
        · rw [if_neg hw]
          by_cases hx : (r (68 + 8 * k) - r (69 + 8 * k) - r (70 + 8 * k)) < v
          · exact kX8_doLoad_r1 hM hr hI ht h.1 h.2 rv hv hp hx
          · exact kX8_doLoad_r2 hM hr hI ht h.1 h.2 rv hv hp hx (by omega)
    · rw [if_neg hv]; exact kX8_doLoad_b hM hr hI ht h.1 h.2 rv hv
  · rw [if_neg h]; exact kX8_doLoad_u hM hr hI ht rk rv h
theorem kX8_doPump_r1 {G : JG} {S : JS} {D : JD} {d : Nat} {M t : Int} {r : Int → Int} {k v : Int} (hM : jMo S M) (hr : D (M + 1) = r) (hI : rIn t r) (ht : t ≤ 60000) (k0 : 0 ≤ k) (k1 : k < r 2) (rv : i32 v) (h : v ≠ 0 ∧ -1000 ≤ v ∧ v ≤ 1000) (hv : (r (68 + 8 * k) - r (69 + 8 * k) - r (70 + 8 * k)) < v) : JM G yX8_doPump cX8_doPump 4 (some .int) (d + 3) (0, 0) S D [.inr (.inr (some M)), .inl k, .inl v] (jrP S (jDo D M r (-100000003, none, 8))) := by
  have hM0 := hM
  obtain ⟨mk, m0, m1, m2, m4, m5, m8, m12, y1, l1, y2, l2, y3, l3, y4, l4, y5, l5, y6, l6, y7, l7⟩ := id hM
  have hr0 := hr
  have b1 := hI.1
  obtain ⟨bp, w0, w1, i0, i1, d0, d1⟩ := hI.bw k0 k1
  have bl := bp.lin hI 0
  have bo := hI.2.2.2.1 k k0 k1
  unfold rBo at bo
  obtain ⟨wo, wm, a0, a1, p0, p1⟩ := hI.wat ht bp
  unfold rWo at wo
  show JX _ _ _ _ _ _ _ _ _ _ _ [_, _, _, _] _ _
  refine x_aload_n dX8_doPump_0 rfl ?_
  refine x_iload_n dX8_doPump_1 rfl ?_
  refine c_RX8_132d dX8_doPump_2 rfl (kX8_noBarge hM0 hr0 ⟨by omega, by omega⟩ (by omega)) (by assumption) (Nat.le_of_ble_eq_true rfl) (Nat.le_of_ble_eq_true rfl) ⟨Nat.le_refl _, Nat.le_refl _⟩ ?_
  refine x_if_eq (tgt := 11) dX8_doPump_5 (by decide) ⟨by split <;> omega, by split <;> omega⟩ (fun hb5 => ?_) (fun h => (h (by omega)).elim)
  refine x_iload_n dX8_doPump_11 rfl ?_
  refine c_RX8_135d dX8_doPump_12 rfl (kX8_isTons rv) (Nat.le_of_ble_eq_true rfl) (Nat.le_of_ble_eq_true rfl) ⟨Nat.le_refl _, Nat.le_refl _⟩ ?_
  refine x_if_ne (tgt := 21) dX8_doPump_15 (by decide) ⟨by split <;> omega, by split <;> omega⟩ (fun hb15 => ?_) (fun h => (h (by omega)).elim)
  refine x_aload_n dX8_doPump_21 rfl ?_
  refine x_iload_n dX8_doPump_22 rfl ?_
  refine x_bipush dX8_doPump_23 (by decide) ?_
  refine c_RX8_60d dX8_doPump_25 rfl (kX8_of hM0 hr0 (by omega) (by omega)) (by assumption) (Nat.le_of_ble_eq_true rfl) (Nat.le_of_ble_eq_true rfl) ⟨Nat.le_refl _, Nat.le_refl _⟩ ?_
  rw [show 65 + 8 * k + 6 = 71 + 8 * k by omega]
  refine c_RX8_68d dX8_doPump_28 rfl (kX8_waterAt ⟨by omega, by omega⟩) (Nat.le_of_ble_eq_true rfl) (Nat.le_of_ble_eq_true rfl) ⟨Nat.le_refl _, Nat.le_refl _⟩ ?_
  refine x_iconst dX8_doPump_31 ?_
  refine x_iadd dX8_doPump_32 ?_
  refine x_istore_n dX8_doPump_33 (by decide) ?_
  show JX _ _ _ _ _ _ _ _ _ _ _ [_, _, _, _] _ _
  refine x_iload_n dX8_doPump_34 rfl ?_
  refine x_aload_n dX8_doPump_35 rfl ?_
  refine x_iload_n dX8_doPump_36 rfl ?_
  refine c_RX8_138d dX8_doPump_37 rfl (kX8_room hM0 hr0 k0 (by omega)) (by assumption) (Nat.le_of_ble_eq_true rfl) (Nat.le_of_ble_eq_true rfl) ⟨Nat.le_refl _, Nat.le_refl _⟩ ?_
  refine x_ic_gt (tgt := 64) dX8_doPump_40 (by decide) ⟨by omega, by omega⟩ ⟨by omega, by omega⟩ (fun hb40 => ?_) (fun h => (h (by omega)).elim)
  refine x_aload_n dX8_doPump_64 rfl ?_
  refine x_bipush dX8_doPump_65 (by decide) ?_
  refine c_RX8_123d dX8_doPump_67 rfl (kX8_refuse hM0) (by assumption) (Nat.le_of_ble_eq_true rfl) (Nat.le_of_ble_eq_true rfl) ⟨Nat.le_refl _, Nat.le_refl _⟩ ?_
  exact x_ireturn dX8_doPump_70 rfl rfl ⟨Nat.le_refl _, Nat.le_refl _⟩ ⟨rfl, _, rfl, jDo_ref hr (by decide)⟩
theorem kX8_doPump_r2 {G : JG} {S : JS} {D : JD} {d : Nat} {M t : Int} {r : Int → Int} {k v : Int} (hM : jMo S M) (hr : D (M + 1) = r) (hI : rIn t r) (ht : t ≤ 60000) (k0 : 0 ≤ k) (k1 : k < r 2) (rv : i32 v) (h : v ≠ 0 ∧ -1000 ≤ v ∧ v ≤ 1000) (hv : ¬ (r (68 + 8 * k) - r (69 + 8 * k) - r (70 + 8 * k)) < v) (hw : r (70 + 8 * k) + v < 0) : JM G yX8_doPump cX8_doPump 4 (some .int) (d + 3) (0, 0) S D [.inr (.inr (some M)), .inl k, .inl v] (jrP S (jDo D M r (-100000003, none, 8))) := by
  have hM0 := hM
  obtain ⟨mk, m0, m1, m2, m4, m5, m8, m12, y1, l1, y2, l2, y3, l3, y4, l4, y5, l5, y6, l6, y7, l7⟩ := id hM
  have hr0 := hr
  have b1 := hI.1
  obtain ⟨bp, w0, w1, i0, i1, d0, d1⟩ := hI.bw k0 k1
  have bl := bp.lin hI 0
  have bo := hI.2.2.2.1 k k0 k1
  unfold rBo at bo
  obtain ⟨wo, wm, a0, a1, p0, p1⟩ := hI.wat ht bp
  unfold rWo at wo
  show JX _ _ _ _ _ _ _ _ _ _ _ [_, _, _, _] _ _
  refine x_aload_n dX8_doPump_0 rfl ?_
  refine x_iload_n dX8_doPump_1 rfl ?_
  refine c_RX8_132d dX8_doPump_2 rfl (kX8_noBarge hM0 hr0 ⟨by omega, by omega⟩ (by omega)) (by assumption) (Nat.le_of_ble_eq_true rfl) (Nat.le_of_ble_eq_true rfl) ⟨Nat.le_refl _, Nat.le_refl _⟩ ?_
  refine x_if_eq (tgt := 11) dX8_doPump_5 (by decide) ⟨by split <;> omega, by split <;> omega⟩ (fun hb5 => ?_) (fun h => (h (by omega)).elim)
  refine x_iload_n dX8_doPump_11 rfl ?_
  refine c_RX8_135d dX8_doPump_12 rfl (kX8_isTons rv) (Nat.le_of_ble_eq_true rfl) (Nat.le_of_ble_eq_true rfl) ⟨Nat.le_refl _, Nat.le_refl _⟩ ?_
  refine x_if_ne (tgt := 21) dX8_doPump_15 (by decide) ⟨by split <;> omega, by split <;> omega⟩ (fun hb15 => ?_) (fun h => (h (by omega)).elim)
  refine x_aload_n dX8_doPump_21 rfl ?_
  refine x_iload_n dX8_doPump_22 rfl ?_
  refine x_bipush dX8_doPump_23 (by decide) ?_
  refine c_RX8_60d dX8_doPump_25 rfl (kX8_of hM0 hr0 (by omega) (by omega)) (by assumption) (Nat.le_of_ble_eq_true rfl) (Nat.le_of_ble_eq_true rfl) ⟨Nat.le_refl _, Nat.le_refl _⟩ ?_
  rw [show 65 + 8 * k + 6 = 71 + 8 * k by omega]
  refine c_RX8_68d dX8_doPump_28 rfl (kX8_waterAt ⟨by omega, by omega⟩) (Nat.le_of_ble_eq_true rfl) (Nat.le_of_ble_eq_true rfl) ⟨Nat.le_refl _, Nat.le_refl _⟩ ?_
  refine x_iconst dX8_doPump_31 ?_
  refine x_iadd dX8_doPump_32 ?_
  refine x_istore_n dX8_doPump_33 (by decide) ?_
  show JX _ _ _ _ _ _ _ _ _ _ _ [_, _, _, _] _ _
  refine x_iload_n dX8_doPump_34 rfl ?_
  refine x_aload_n dX8_doPump_35 rfl ?_
  refine x_iload_n dX8_doPump_36 rfl ?_
  refine c_RX8_138d dX8_doPump_37 rfl (kX8_room hM0 hr0 k0 (by omega)) (by assumption) (Nat.le_of_ble_eq_true rfl) (Nat.le_of_ble_eq_true rfl) ⟨Nat.le_refl _, Nat.le_refl _⟩ ?_
  refine x_ic_gt (tgt := 64) dX8_doPump_40 (by decide) ⟨by omega, by omega⟩ ⟨by omega, by omega⟩ (fun h => absurd h (by omega)) (fun hb40 => ?_)
  refine x_aload_n dX8_doPump_43 rfl ?_
  refine x_iload_n dX8_doPump_44 rfl ?_
  refine x_iconst dX8_doPump_45 ?_
  refine c_RX8_60d dX8_doPump_46 rfl (kX8_of hM0 hr0 (by omega) (by omega)) (by assumption) (Nat.le_of_ble_eq_true rfl) (Nat.le_of_ble_eq_true rfl) ⟨Nat.le_refl _, Nat.le_refl _⟩ ?_
  rw [show 65 + 8 * k + 5 = 70 + 8 * k by omega]
  refine x_iload_n dX8_doPump_49 rfl ?_
  refine x_iadd dX8_doPump_50 ?_
  refine x_if_lt (tgt := 64) dX8_doPump_51 (by decide) ⟨by omega, by omega⟩ (fun hb51 => ?_) (fun h => (h (by omega)).elim)
  refine x_aload_n dX8_doPump_64 rfl ?_
  refine x_bipush dX8_doPump_65 (by decide) ?_
  refine c_RX8_123d dX8_doPump_67 rfl (kX8_refuse hM0) (by assumption) (Nat.le_of_ble_eq_true rfl) (Nat.le_of_ble_eq_true rfl) ⟨Nat.le_refl _, Nat.le_refl _⟩ ?_
  exact x_ireturn dX8_doPump_70 rfl rfl ⟨Nat.le_refl _, Nat.le_refl _⟩ ⟨rfl, _, rfl, jDo_ref hr (by decide)⟩
theorem kX8_doPump_r3 {G : JG} {S : JS} {D : JD} {d : Nat} {M t : Int} {r : Int → Int} {k v : Int} (hM : jMo S M) (hr : D (M + 1) = r) (hI : rIn t r) (ht : t ≤ 60000) (k0 : 0 ≤ k) (k1 : k < r 2) (rv : i32 v) (h : v ≠ 0 ∧ -1000 ≤ v ∧ v ≤ 1000) (hv : ¬ (r (68 + 8 * k) - r (69 + 8 * k) - r (70 + 8 * k)) < v) (hw : ¬ r (70 + 8 * k) + v < 0) (hx : r (wA (r (71 + 8 * k)) + 2) < v) : JM G yX8_doPump cX8_doPump 4 (some .int) (d + 3) (0, 0) S D [.inr (.inr (some M)), .inl k, .inl v] (jrP S (jDo D M r (-100000003, none, 8))) := by
  have hM0 := hM
  obtain ⟨mk, m0, m1, m2, m4, m5, m8, m12, y1, l1, y2, l2, y3, l3, y4, l4, y5, l5, y6, l6, y7, l7⟩ := id hM
  have hr0 := hr
  have b1 := hI.1
  obtain ⟨bp, w0, w1, i0, i1, d0, d1⟩ := hI.bw k0 k1
  have bl := bp.lin hI 0
  have bo := hI.2.2.2.1 k k0 k1
  unfold rBo at bo
  obtain ⟨wo, wm, a0, a1, p0, p1⟩ := hI.wat ht bp
  unfold rWo at wo
  show JX _ _ _ _ _ _ _ _ _ _ _ [_, _, _, _] _ _
  refine x_aload_n dX8_doPump_0 rfl ?_
  refine x_iload_n dX8_doPump_1 rfl ?_
  refine c_RX8_132d dX8_doPump_2 rfl (kX8_noBarge hM0 hr0 ⟨by omega, by omega⟩ (by omega)) (by assumption) (Nat.le_of_ble_eq_true rfl) (Nat.le_of_ble_eq_true rfl) ⟨Nat.le_refl _, Nat.le_refl _⟩ ?_
  refine x_if_eq (tgt := 11) dX8_doPump_5 (by decide) ⟨by split <;> omega, by split <;> omega⟩ (fun hb5 => ?_) (fun h => (h (by omega)).elim)
  refine x_iload_n dX8_doPump_11 rfl ?_
  refine c_RX8_135d dX8_doPump_12 rfl (kX8_isTons rv) (Nat.le_of_ble_eq_true rfl) (Nat.le_of_ble_eq_true rfl) ⟨Nat.le_refl _, Nat.le_refl _⟩ ?_
  refine x_if_ne (tgt := 21) dX8_doPump_15 (by decide) ⟨by split <;> omega, by split <;> omega⟩ (fun hb15 => ?_) (fun h => (h (by omega)).elim)
  refine x_aload_n dX8_doPump_21 rfl ?_
  refine x_iload_n dX8_doPump_22 rfl ?_
  refine x_bipush dX8_doPump_23 (by decide) ?_
  refine c_RX8_60d dX8_doPump_25 rfl (kX8_of hM0 hr0 (by omega) (by omega)) (by assumption) (Nat.le_of_ble_eq_true rfl) (Nat.le_of_ble_eq_true rfl) ⟨Nat.le_refl _, Nat.le_refl _⟩ ?_
  rw [show 65 + 8 * k + 6 = 71 + 8 * k by omega]
  refine c_RX8_68d dX8_doPump_28 rfl (kX8_waterAt ⟨by omega, by omega⟩) (Nat.le_of_ble_eq_true rfl) (Nat.le_of_ble_eq_true rfl) ⟨Nat.le_refl _, Nat.le_refl _⟩ ?_
  refine x_iconst dX8_doPump_31 ?_
  refine x_iadd dX8_doPump_32 ?_
  refine x_istore_n dX8_doPump_33 (by decide) ?_
  show JX _ _ _ _ _ _ _ _ _ _ _ [_, _, _, _] _ _
  refine x_iload_n dX8_doPump_34 rfl ?_
  refine x_aload_n dX8_doPump_35 rfl ?_
  refine x_iload_n dX8_doPump_36 rfl ?_
  refine c_RX8_138d dX8_doPump_37 rfl (kX8_room hM0 hr0 k0 (by omega)) (by assumption) (Nat.le_of_ble_eq_true rfl) (Nat.le_of_ble_eq_true rfl) ⟨Nat.le_refl _, Nat.le_refl _⟩ ?_
  refine x_ic_gt (tgt := 64) dX8_doPump_40 (by decide) ⟨by omega, by omega⟩ ⟨by omega, by omega⟩ (fun h => absurd h (by omega)) (fun hb40 => ?_)
  refine x_aload_n dX8_doPump_43 rfl ?_
  refine x_iload_n dX8_doPump_44 rfl ?_
  refine x_iconst dX8_doPump_45 ?_
  refine c_RX8_60d dX8_doPump_46 rfl (kX8_of hM0 hr0 (by omega) (by omega)) (by assumption) (Nat.le_of_ble_eq_true rfl) (Nat.le_of_ble_eq_true rfl) ⟨Nat.le_refl _, Nat.le_refl _⟩ ?_
  rw [show 65 + 8 * k + 5 = 70 + 8 * k by omega]
  refine x_iload_n dX8_doPump_49 rfl ?_
  refine x_iadd dX8_doPump_50 ?_
  refine x_if_lt (tgt := 64) dX8_doPump_51 (by decide) ⟨by omega, by omega⟩ (fun h => absurd h (by omega)) (fun hb51 => ?_)
  refine x_iload_n dX8_doPump_54 rfl ?_
  refine x_aload_n dX8_doPump_55 rfl ?_
  refine gf_RX8_7 dX8_doPump_56 rfl (by assumption) ?_
  rw [m0]
  refine x_iload_n dX8_doPump_59 rfl ?_
  refine x_iald dX8_doPump_60 (by assumption) ⟨by omega, by omega⟩ ?_
  rw [hr]
  refine x_ic_le (tgt := 71) dX8_doPump_61 (by decide) ⟨by omega, by omega⟩ ⟨by omega, by omega⟩ (fun h => absurd h (by omega)) (fun hb61 => ?_)
  refine x_aload_n dX8_doPump_64 rfl ?_
  refine x_bipush dX8_doPump_65 (by decide) ?_
  refine c_RX8_123d dX8_doPump_67 rfl (kX8_refuse hM0) (by assumption) (Nat.le_of_ble_eq_true rfl) (Nat.le_of_ble_eq_true rfl) ⟨Nat.le_refl _, Nat.le_refl _⟩ ?_
  exact x_ireturn dX8_doPump_70 rfl rfl ⟨Nat.le_refl _, Nat.le_refl _⟩ ⟨rfl, _, rfl, jDo_ref hr (by decide)⟩
theorem kX8_doPump_y {G : JG} {S : JS} {D : JD} {d : Nat} {M t : Int} {r : Int → Int} {k v : Int} (hM : jMo S M) (hr : D (M + 1) = r) (hI : rIn t r) (ht : t ≤ 60000) (k0 : 0 ≤ k) (k1 : k < r 2) (rv : i32 v) (h : v ≠ 0 ∧ -1000 ≤ v ∧ v ≤ 1000) (hv : v ≤ r (wA (r (71 + 8 * k)) + 2) ∧ 0 ≤ r (70 + 8 * k) + v ∧ v ≤ r (68 + 8 * k) - r (69 + 8 * k) - r (70 + 8 * k)) (ht2 : t + 1 ≤ 60000) : JM G yX8_doPump cX8_doPump 4 (some .int) (d + 3) (0, 0) S D [.inr (.inr (some M)), .inl k, .inl v] (jrP S (jDo D M r (sDr (rPump k v r) k, some (rPump k v r), 0))) := by
  have hM0 := hM
  obtain ⟨mk, m0, m1, m2, m4, m5, m8, m12, y1, l1, y2, l2, y3, l3, y4, l4, y5, l5, y6, l6, y7, l7⟩ := id hM
  have hr0 := hr
  have b1 := hI.1
  obtain ⟨bp, w0, w1, i0, i1, d0, d1⟩ := hI.bw k0 k1
  have bl := bp.lin hI 0
  have bo := hI.2.2.2.1 k k0 k1
  unfold rBo at bo
  obtain ⟨wo, wm, a0, a1, p0, p1⟩ := hI.wat ht bp
  unfold rWo at wo
  show JX _ _ _ _ _ _ _ _ _ _ _ [_, _, _, _] _ _
  refine x_aload_n dX8_doPump_0 rfl ?_
  refine x_iload_n dX8_doPump_1 rfl ?_
  refine c_RX8_132d dX8_doPump_2 rfl (kX8_noBarge hM0 hr0 ⟨by omega, by omega⟩ (by omega)) (by assumption) (Nat.le_of_ble_eq_true rfl) (Nat.le_of_ble_eq_true rfl) ⟨Nat.le_refl _, Nat.le_refl _⟩ ?_
  refine x_if_eq (tgt := 11) dX8_doPump_5 (by decide) ⟨by split <;> omega, by split <;> omega⟩ (fun hb5 => ?_) (fun h => (h (by omega)).elim)
  refine x_iload_n dX8_doPump_11 rfl ?_
  refine c_RX8_135d dX8_doPump_12 rfl (kX8_isTons rv) (Nat.le_of_ble_eq_true rfl) (Nat.le_of_ble_eq_true rfl) ⟨Nat.le_refl _, Nat.le_refl _⟩ ?_
  refine x_if_ne (tgt := 21) dX8_doPump_15 (by decide) ⟨by split <;> omega, by split <;> omega⟩ (fun hb15 => ?_) (fun h => (h (by omega)).elim)
  refine x_aload_n dX8_doPump_21 rfl ?_
  refine x_iload_n dX8_doPump_22 rfl ?_
  refine x_bipush dX8_doPump_23 (by decide) ?_
  refine c_RX8_60d dX8_doPump_25 rfl (kX8_of hM0 hr0 (by omega) (by omega)) (by assumption) (Nat.le_of_ble_eq_true rfl) (Nat.le_of_ble_eq_true rfl) ⟨Nat.le_refl _, Nat.le_refl _⟩ ?_
  rw [show 65 + 8 * k + 6 = 71 + 8 * k by omega]
  refine c_RX8_68d dX8_doPump_28 rfl (kX8_waterAt ⟨by omega, by omega⟩) (Nat.le_of_ble_eq_true rfl) (Nat.le_of_ble_eq_true rfl) ⟨Nat.le_refl _, Nat.le_refl _⟩ ?_
  refine x_iconst dX8_doPump_31 ?_
  refine x_iadd dX8_doPump_32 ?_
  refine x_istore_n dX8_doPump_33 (by decide) ?_
  show JX _ _ _ _ _ _ _ _ _ _ _ [_, _, _, _] _ _
  refine x_iload_n dX8_doPump_34 rfl ?_
  refine x_aload_n dX8_doPump_35 rfl ?_
  refine x_iload_n dX8_doPump_36 rfl ?_
  refine c_RX8_138d dX8_doPump_37 rfl (kX8_room hM0 hr0 k0 (by omega)) (by assumption) (Nat.le_of_ble_eq_true rfl) (Nat.le_of_ble_eq_true rfl) ⟨Nat.le_refl _, Nat.le_refl _⟩ ?_
  refine x_ic_gt (tgt := 64) dX8_doPump_40 (by decide) ⟨by omega, by omega⟩ ⟨by omega, by omega⟩ (fun h => absurd h (by omega)) (fun hb40 => ?_)
  refine x_aload_n dX8_doPump_43 rfl ?_
  refine x_iload_n dX8_doPump_44 rfl ?_
  refine x_iconst dX8_doPump_45 ?_
  refine c_RX8_60d dX8_doPump_46 rfl (kX8_of hM0 hr0 (by omega) (by omega)) (by assumption) (Nat.le_of_ble_eq_true rfl) (Nat.le_of_ble_eq_true rfl) ⟨Nat.le_refl _, Nat.le_refl _⟩ ?_
  rw [show 65 + 8 * k + 5 = 70 + 8 * k by omega]
  refine x_iload_n dX8_doPump_49 rfl ?_
  refine x_iadd dX8_doPump_50 ?_
  refine x_if_lt (tgt := 64) dX8_doPump_51 (by decide) ⟨by omega, by omega⟩ (fun h => absurd h (by omega)) (fun hb51 => ?_)
  refine x_iload_n dX8_doPump_54 rfl ?_
  refine x_aload_n dX8_doPump_55 rfl ?_
  refine gf_RX8_7 dX8_doPump_56 rfl (by assumption) ?_
  rw [m0]
  refine x_iload_n dX8_doPump_59 rfl ?_
  refine x_iald dX8_doPump_60 (by assumption) ⟨by omega, by omega⟩ ?_
  rw [hr]
  refine x_ic_le (tgt := 71) dX8_doPump_61 (by decide) ⟨by omega, by omega⟩ ⟨by omega, by omega⟩ (fun hb61 => ?_) (fun h => (h (by omega)).elim)
  refine x_aload_n dX8_doPump_71 rfl ?_
  refine gf_RX8_7 dX8_doPump_72 rfl (by assumption) ?_
  rw [m0]
  refine x_iload_n dX8_doPump_75 rfl ?_
  refine x_dup2 dX8_doPump_76 (fun _ h => by cases h) (fun _ h => by cases h) ?_
  refine x_iald dX8_doPump_77 (by assumption) ⟨by omega, by omega⟩ ?_
  rw [hr]
  refine x_iload_n dX8_doPump_78 rfl ?_
  refine x_isub dX8_doPump_79 ?_
  refine x_iast dX8_doPump_80 (by assumption) ⟨by omega, by omega⟩ ?_
  have hra : (jup D (M + 1) (wA (r (71 + 8 * k)) + 2) (r (wA (r (71 + 8 * k)) + 2) - v)) (M + 1) = rup r (wA (r (71 + 8 * k)) + 2) (r (wA (r (71 + 8 * k)) + 2) - v) := by rw [jup_row, hr]
  refine x_aload_n dX8_doPump_81 rfl ?_
  refine x_iload_n dX8_doPump_82 rfl ?_
  refine x_iconst dX8_doPump_83 ?_
  refine x_aload_n dX8_doPump_84 rfl ?_
  refine x_iload_n dX8_doPump_85 rfl ?_
  refine x_iconst dX8_doPump_86 ?_
  refine c_RX8_60d dX8_doPump_87 rfl (kX8_of hM0 hra (by omega) (by omega)) (by assumption) (Nat.le_of_ble_eq_true rfl) (Nat.le_of_ble_eq_true rfl) ⟨Nat.le_refl _, Nat.le_refl _⟩ ?_
  rw [show 65 + 8 * k + 5 = 70 + 8 * k by omega]
  rw [rup_ne (show 70 + 8 * k ≠ wA (r (71 + 8 * k)) + 2 by omega)]
  refine x_iload_n dX8_doPump_90 rfl ?_
  refine x_iadd dX8_doPump_91 ?_
  refine c_RX8_129d dX8_doPump_92 rfl (kX8_put hM0 hra (by omega) (by omega)) (by assumption) (Nat.le_of_ble_eq_true rfl) (Nat.le_of_ble_eq_true rfl) ⟨Nat.le_refl _, Nat.le_refl _⟩ ?_
  rw [show 65 + 8 * k + 5 = 70 + 8 * k by omega]
  have hr2 : (jup (jup D (M + 1) (wA (r (71 + 8 * k)) + 2) (r (wA (r (71 + 8 * k)) + 2) - v)) (M + 1) (70 + 8 * k) (r (70 + 8 * k) + v)) (M + 1) = rPump k v r := by rw [jup_row, hra]; rfl
  have hI2 := hI.pump k0 k1 h.2 hv
  have e2 : rPump k v r 2 = r 2 := by unfold rPump; rw [rup_ne (by omega), rup_ne (by omega)]
  refine x_aload_n dX8_doPump_95 rfl ?_
  refine x_iload_n dX8_doPump_96 rfl ?_
  refine c_RX8_79d dX8_doPump_97 rfl (kX8_draught hM0 hr2 hI2 ht2 k0 (by rw [e2]; omega)) (by assumption) (Nat.le_of_ble_eq_true rfl) (Nat.le_of_ble_eq_true rfl) ⟨Nat.le_refl _, Nat.le_refl _⟩ ?_
  exact x_ireturn dX8_doPump_100 rfl rfl ⟨Nat.le_refl _, Nat.le_refl _⟩ ⟨rfl, _, rfl, jDo_put hr2 (fun x hx => by rw [jup_off hx, jup_off hx])⟩
theorem kX8_doPump {G : JG} {S : JS} {D : JD} {d : Nat} {M t : Int} {r : Int → Int}  {k v : Int} (hM : jMo S M) (hr : D (M + 1) = r) (hI : rIn t r) (ht : t ≤ 60000) (ht2 : t + 1 ≤ 60000) (rk : i32 k) (rv : i32 v) : JM G yX8_doPump cX8_doPump 4 (some .int) (d + 3) (0, 0) S D [.inr (.inr (some M)), .inl k, .inl v] (jrP S (jDo D M r (zPump k v r))) := by
  unfold zPump
  by_cases h : 0 ≤ k ∧ k < r 2
  · rw [if_pos h]
    by_cases hv : v ≠ 0 ∧ -1000 ≤ v ∧ v ≤ 1000
    · rw [if_pos hv]
      by_cases hw : v ≤ r (wA (r (71 + 8 * k)) + 2) ∧ 0 ≤ r (70 + 8 * k) + v ∧ v ≤ r (68 + 8 * k) - r (69 + 8 * k) - r (70 + 8 * k)
      · rw [if_pos hw]; exact kX8_doPump_y hM hr hI ht h.1 h.2 rv hv hw ht2
      · rw [if_neg hw]
        by_cases hx : (r (68 + 8 * k) - r (69 + 8 * k) - r (70 + 8 * k)) < v
        · exact kX8_doPump_r1 hM hr hI ht h.1 h.2 rv hv hx
        · by_cases hy : r (70 + 8 * k) + v < 0
          · exact kX8_doPump_r2 hM hr hI ht h.1 h.2 rv hv hx hy
          · exact kX8_doPump_r3 hM hr hI ht h.1 h.2 rv hv hx hy (by omega)
    · rw [if_neg hv]; exact kX8_doPump_b hM hr hI ht h.1 h.2 rv hv
  · rw [if_neg h]; exact kX8_doPump_u hM hr hI ht rk rv h
