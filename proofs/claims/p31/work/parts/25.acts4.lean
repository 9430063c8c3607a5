/-! ACTS: supply, load, pump -/
def rSupply (i v : Int) (r : Int → Int) : Int → Int := rup (rup r (8 + 3 * i) (r (8 + 3 * i) + v)) 4 (r 4 + v)
def zSupply (i v : Int) (r : Int → Int) : Zr := if 0 ≤ i ∧ i < r 0 then (if -1000000 ≤ v ∧ v ≤ 1000000 then (if 0 ≤ r (8 + 3 * i) + v ∧ r (8 + 3 * i) + v ≤ 100000000 then (sLv (sAll (rSupply i v r)) i, some (rSupply i v r), 0) else (-100000003, none, 8)) else (-100000002, none, 0)) else (-100000001, none, 0)
def rLoad (k v : Int) (r : Int → Int) : Int → Int := rup r (69 + 8 * k) (r (69 + 8 * k) + v)
def zLoad (k v : Int) (r : Int → Int) : Zr := if 0 ≤ k ∧ k < r 2 then (if v ≠ 0 ∧ -1000 ≤ v ∧ v ≤ 1000 then (if 100 ≤ r (71 + 8 * k) then (-100000003, none, 4) else if 0 ≤ r (69 + 8 * k) + v ∧ v ≤ r (68 + 8 * k) - r (69 + 8 * k) - r (70 + 8 * k) then (sDr (rLoad k v r) k, some (rLoad k v r), 0) else (-100000003, none, 8)) else (-100000002, none, 0)) else (-100000001, none, 0)
def rPump (k v : Int) (r : Int → Int) : Int → Int := rup (rup r (wA (r (71 + 8 * k)) + 2) (r (wA (r (71 + 8 * k)) + 2) - v)) (70 + 8 * k) (r (70 + 8 * k) + v)
def zPump (k v : Int) (r : Int → Int) : Zr := if 0 ≤ k ∧ k < r 2 then (if v ≠ 0 ∧ -1000 ≤ v ∧ v ≤ 1000 then (if v ≤ r (wA (r (71 + 8 * k)) + 2) ∧ 0 ≤ r (70 + 8 * k) + v ∧ v ≤ r (68 + 8 * k) - r (69 + 8 * k) - r (70 + 8 * k) then (sDr (rPump k v r) k, some (rPump k v r), 0) else (-100000003, none, 8)) else (-100000002, none, 0)) else (-100000001, none, 0)
theorem kX7_supply_u {G : JG} {S : JS} {D : JD} {d : Nat} {X t cz n q : Int} {hs : Int → Int → Int} {r : Int → Int} {i v : Int} (hB : jBL S X) (hz : cz = 0 ∨ cz = 1) (hst : jSt D X t cz n hs r q) (ht : t + 100 ≤ 60000)(ri : i32 i) (h : ¬ (0 ≤ i ∧ i < r 0)) : JM G yX7_supply cX7_supply 6 (some .int) (d + 5) (0, 0) S D [.inr (.inr (some X)), .inl i, .inl v] (jrP S (jCl D X (t + 100) cz n hs r q (-100000001, none, 0))) := by
  have hB0 := hB
  obtain ⟨bk, bf, bh, bs, bo, hF, hH, sk, sl, ok, ot, tk, tl⟩ := id hB
  have fk := hF.1
  have hhk := hH.1
  obtain ⟨s5, s4, hR, hI, hi⟩ := id hst
  have hc := hR.ct hI
  have b1 := hI.1
  have e0 := hR.1.1
  show JX _ _ _ _ _ _ _ _ _ _ _ [_, _, _, _, _, _] _ _
  refine x_aload_n dX7_supply_0 rfl ?_
  refine gf_RX7_10 dX7_supply_1 rfl (by assumption) ?_
  rw [bf]
  refine x_iload_n dX7_supply_4 rfl ?_
  refine c_RX7_91d dX7_supply_5 rfl (kX2_reachAt_n hF hc ri (by omega)) (by assumption) (Nat.le_of_ble_eq_true rfl) (Nat.le_of_ble_eq_true rfl) ⟨Nat.le_refl _, Nat.le_refl _⟩ ?_
  refine x_astore_n dX7_supply_8 (by decide) ?_
  show JX _ _ _ _ _ _ _ _ _ _ _ [_, _, _, _, _, _] _ _
  refine x_aload_n dX7_supply_9 rfl ?_
  refine x_ifnonnull (tgt := 16) dX7_supply_10 (by decide) (fun h => absurd rfl h) (fun hb10 => ?_)
  refine x_ldc (e := -100000001) dX7_supply_13 ct_RX7_78 (by decide) ?_
  exact x_ireturn dX7_supply_15 rfl rfl ⟨Nat.le_refl _, Nat.le_refl _⟩ ⟨rfl, _, rfl, jCl_none hst (by omega)⟩
theorem kX7_supply_b {G : JG} {S : JS} {D : JD} {d : Nat} {X t cz n q : Int} {hs : Int → Int → Int} {r : Int → Int} {i v : Int} (hB : jBL S X) (hz : cz = 0 ∨ cz = 1) (hst : jSt D X t cz n hs r q) (ht : t + 100 ≤ 60000)(h0 : 0 ≤ i) (h1 : i < r 0) (rv : i32 v) (h : ¬ (-1000000 ≤ v ∧ v ≤ 1000000)) : JM G yX7_supply cX7_supply 6 (some .int) (d + 5) (0, 0) S D [.inr (.inr (some X)), .inl i, .inl v] (jrP S (jCl D X (t + 100) cz n hs r q (-100000002, none, 0))) := by
  have hB0 := hB
  obtain ⟨bk, bf, bh, bs, bo, hF, hH, sk, sl, ok, ot, tk, tl⟩ := id hB
  have fk := hF.1
  have hhk := hH.1
  obtain ⟨s5, s4, hR, hI, hi⟩ := id hst
  have hc := hR.ct hI
  have b1 := hI.1
  have e0 := hR.1.1
  have hr : 0 ≤ i ∧ i < r 0 := ⟨h0, h1⟩
  have rk := (hF.2.2.2.2.2.2.2.2.2.2.1 i hr.1 (by omega)).2
  have wp : rPl r i := Or.inl hr
  have we : sWa (X + 1) i = X + 1 + 4 + i := by unfold sWa; rw [if_pos (by omega)]
  have wa : wA i + 2 = 8 + 3 * i := by rw [wA_r (by omega)]; omega
  obtain ⟨w0, w1, w2, w3, -⟩ := hR.wr h0 h1 (by omega)
  have mw := (hI.maxw (by omega)).2.1 i h0 h1
  have mn := hI.wr h0 h1
  show JX _ _ _ _ _ _ _ _ _ _ _ [_, _, _, _, _, _] _ _
  refine x_aload_n dX7_supply_0 rfl ?_
  refine gf_RX7_10 dX7_supply_1 rfl (by assumption) ?_
  rw [bf]
  refine x_iload_n dX7_supply_4 rfl ?_
  refine c_RX7_91d dX7_supply_5 rfl (kX2_reachAt_y hF hc (by omega)) (by assumption) (Nat.le_of_ble_eq_true rfl) (Nat.le_of_ble_eq_true rfl) ⟨Nat.le_refl _, Nat.le_refl _⟩ ?_
  refine x_astore_n dX7_supply_8 (by decide) ?_
  show JX _ _ _ _ _ _ _ _ _ _ _ [_, _, _, _, _, _] _ _
  refine x_aload_n dX7_supply_9 rfl ?_
  refine x_ifnonnull (tgt := 16) dX7_supply_10 (by decide) (fun hb10 => ?_) (fun h => by cases h)
  refine x_iload_n dX7_supply_16 rfl ?_
  refine x_ldc (e := -1000000) dX7_supply_17 ct_RX7_95 (by decide) ?_
  refine x_ldc (e := 1000000) dX7_supply_19 ct_RX7_96 (by decide) ?_
  refine c_RX7_65d dX7_supply_21 rfl (kX7_isWithin rv ⟨by omega, by omega⟩ ⟨by omega, by omega⟩) (Nat.le_of_ble_eq_true rfl) (Nat.le_of_ble_eq_true rfl) ⟨Nat.le_refl _, Nat.le_refl _⟩ ?_
  refine x_if_ne (tgt := 30) dX7_supply_24 (by decide) ⟨by split <;> omega, by split <;> omega⟩ (fun h => absurd h (by omega)) (fun hb24 => ?_)
  refine x_ldc (e := -100000002) dX7_supply_27 ct_RX7_46 (by decide) ?_
  exact x_ireturn dX7_supply_29 rfl rfl ⟨Nat.le_refl _, Nat.le_refl _⟩ ⟨rfl, _, rfl, jCl_none hst (by omega)⟩
theorem kX7_supply_r1 {G : JG} {S : JS} {D : JD} {d : Nat} {X t cz n q : Int} {hs : Int → Int → Int} {r : Int → Int} {i v : Int} (hB : jBL S X) (hz : cz = 0 ∨ cz = 1) (hst : jSt D X t cz n hs r q) (ht : t + 100 ≤ 60000)(h0 : 0 ≤ i) (h1 : i < r 0) (rv : i32 v) (h : -1000000 ≤ v ∧ v ≤ 1000000) (hr1 : r (8 + 3 * i) + v < 0) : JM G yX7_supply cX7_supply 6 (some .int) (d + 5) (0, 0) S D [.inr (.inr (some X)), .inl i, .inl v] (jrP S (jCl D X (t + 100) cz n hs r q (-100000003, none, 8))) := by
  have hB0 := hB
  obtain ⟨bk, bf, bh, bs, bo, hF, hH, sk, sl, ok, ot, tk, tl⟩ := id hB
  have fk := hF.1
  have hhk := hH.1
  obtain ⟨s5, s4, hR, hI, hi⟩ := id hst
  have hc := hR.ct hI
  have b1 := hI.1
  have e0 := hR.1.1
  have hr : 0 ≤ i ∧ i < r 0 := ⟨h0, h1⟩
  have rk := (hF.2.2.2.2.2.2.2.2.2.2.1 i hr.1 (by omega)).2
  have wp : rPl r i := Or.inl hr
  have we : sWa (X + 1) i = X + 1 + 4 + i := by unfold sWa; rw [if_pos (by omega)]
  have wa : wA i + 2 = 8 + 3 * i := by rw [wA_r (by omega)]; omega
  obtain ⟨w0, w1, w2, w3, -⟩ := hR.wr h0 h1 (by omega)
  have mw := (hI.maxw (by omega)).2.1 i h0 h1
  have mn := hI.wr h0 h1
  show JX _ _ _ _ _ _ _ _ _ _ _ [_, _, _, _, _, _] _ _
  refine x_aload_n dX7_supply_0 rfl ?_
  refine gf_RX7_10 dX7_supply_1 rfl (by assumption) ?_
  rw [bf]
  refine x_iload_n dX7_supply_4 rfl ?_
  refine c_RX7_91d dX7_supply_5 rfl (kX2_reachAt_y hF hc (by omega)) (by assumption) (Nat.le_of_ble_eq_true rfl) (Nat.le_of_ble_eq_true rfl) ⟨Nat.le_refl _, Nat.le_refl _⟩ ?_
  refine x_astore_n dX7_supply_8 (by decide) ?_
  show JX _ _ _ _ _ _ _ _ _ _ _ [_, _, _, _, _, _] _ _
  refine x_aload_n dX7_supply_9 rfl ?_
  refine x_ifnonnull (tgt := 16) dX7_supply_10 (by decide) (fun hb10 => ?_) (fun h => by cases h)
  refine x_iload_n dX7_supply_16 rfl ?_
  refine x_ldc (e := -1000000) dX7_supply_17 ct_RX7_95 (by decide) ?_
  refine x_ldc (e := 1000000) dX7_supply_19 ct_RX7_96 (by decide) ?_
  refine c_RX7_65d dX7_supply_21 rfl (kX7_isWithin rv ⟨by omega, by omega⟩ ⟨by omega, by omega⟩) (Nat.le_of_ble_eq_true rfl) (Nat.le_of_ble_eq_true rfl) ⟨Nat.le_refl _, Nat.le_refl _⟩ ?_
  refine x_if_ne (tgt := 30) dX7_supply_24 (by decide) ⟨by split <;> omega, by split <;> omega⟩ (fun hb24 => ?_) (fun h => (h (by omega)).elim)
  refine x_aload_n dX7_supply_30 rfl ?_
  refine gf_RX7_97 dX7_supply_31 rfl (by assumption) ?_
  rw [w2]
  refine x_iload_n dX7_supply_34 rfl ?_
  refine x_i2l dX7_supply_35 ⟨by omega, by omega⟩ ?_
  refine x_ladd dX7_supply_36 ?_
  refine x_lstore dX7_supply_37 (by decide) ?_
  show JX _ _ _ _ _ _ _ _ _ _ _ [_, _, _, _, _, _] _ _
  refine x_lload dX7_supply_39 rfl ?_
  refine x_lconst (e := 0) dX7_supply_41 (by decide) ?_
  refine x_lc_lt (tgt := 55) dX7_supply_42 dX7_supply_43 (by decide) ⟨by omega, by omega⟩ ⟨by omega, by omega⟩ (fun hb43 => ?_) (fun h => (h (by omega)).elim)
  refine x_aload_n dX7_supply_55 rfl ?_
  refine x_bipush dX7_supply_56 (by decide) ?_
  refine c_RX7_105d dX7_supply_58 rfl (kX7_refuse hB0) (by assumption) (Nat.le_of_ble_eq_true rfl) (Nat.le_of_ble_eq_true rfl) ⟨Nat.le_refl _, Nat.le_refl _⟩ ?_
  exact x_ireturn dX7_supply_61 rfl rfl ⟨Nat.le_refl _, Nat.le_refl _⟩ ⟨rfl, _, rfl, jCl_ref hst (by omega) (by decide)⟩
theorem kX7_supply_r2 {G : JG} {S : JS} {D : JD} {d : Nat} {X t cz n q : Int} {hs : Int → Int → Int} {r : Int → Int} {i v : Int} (hB : jBL S X) (hz : cz = 0 ∨ cz = 1) (hst : jSt D X t cz n hs r q) (ht : t + 100 ≤ 60000)(h0 : 0 ≤ i) (h1 : i < r 0) (rv : i32 v) (h : -1000000 ≤ v ∧ v ≤ 1000000) (hr1 : 100000000 < r (8 + 3 * i) + v) : JM G yX7_supply cX7_supply 6 (some .int) (d + 5) (0, 0) S D [.inr (.inr (some X)), .inl i, .inl v] (jrP S (jCl D X (t + 100) cz n hs r q (-100000003, none, 8))) := by
  have hB0 := hB
  obtain ⟨bk, bf, bh, bs, bo, hF, hH, sk, sl, ok, ot, tk, tl⟩ := id hB
  have fk := hF.1
  have hhk := hH.1
  obtain ⟨s5, s4, hR, hI, hi⟩ := id hst
  have hc := hR.ct hI
  have b1 := hI.1
  have e0 := hR.1.1
  have hr : 0 ≤ i ∧ i < r 0 := ⟨h0, h1⟩
  have rk := (hF.2.2.2.2.2.2.2.2.2.2.1 i hr.1 (by omega)).2
  have wp : rPl r i := Or.inl hr
  have we : sWa (X + 1) i = X + 1 + 4 + i := by unfold sWa; rw [if_pos (by omega)]
  have wa : wA i + 2 = 8 + 3 * i := by rw [wA_r (by omega)]; omega
  obtain ⟨w0, w1, w2, w3, -⟩ := hR.wr h0 h1 (by omega)
  have mw := (hI.maxw (by omega)).2.1 i h0 h1
  have mn := hI.wr h0 h1
  show JX _ _ _ _ _ _ _ _ _ _ _ [_, _, _, _, _, _] _ _
  refine x_aload_n dX7_supply_0 rfl ?_
  refine gf_RX7_10 dX7_supply_1 rfl (by assumption) ?_
  rw [bf]
  refine x_iload_n dX7_supply_4 rfl ?_
  refine c_RX7_91d dX7_supply_5 rfl (kX2_reachAt_y hF hc (by omega)) (by assumption) (Nat.le_of_ble_eq_true rfl) (Nat.le_of_ble_eq_true rfl) ⟨Nat.le_refl _, Nat.le_refl _⟩ ?_
  refine x_astore_n dX7_supply_8 (by decide) ?_
  show JX _ _ _ _ _ _ _ _ _ _ _ [_, _, _, _, _, _] _ _
  refine x_aload_n dX7_supply_9 rfl ?_
  refine x_ifnonnull (tgt := 16) dX7_supply_10 (by decide) (fun hb10 => ?_) (fun h => by cases h)
  refine x_iload_n dX7_supply_16 rfl ?_
  refine x_ldc (e := -1000000) dX7_supply_17 ct_RX7_95 (by decide) ?_
  refine x_ldc (e := 1000000) dX7_supply_19 ct_RX7_96 (by decide) ?_
  refine c_RX7_65d dX7_supply_21 rfl (kX7_isWithin rv ⟨by omega, by omega⟩ ⟨by omega, by omega⟩) (Nat.le_of_ble_eq_true rfl) (Nat.le_of_ble_eq_true rfl) ⟨Nat.le_refl _, Nat.le_refl _⟩ ?_
  refine x_if_ne (tgt := 30) dX7_supply_24 (by decide) ⟨by split <;> omega, by split <;> omega⟩ (fun hb24 => ?_) (fun h => (h (by omega)).elim)
  refine x_aload_n dX7_supply_30 rfl ?_
  refine gf_RX7_97 dX7_supply_31 rfl (by assumption) ?_
  rw [w2]
  refine x_iload_n dX7_supply_34 rfl ?_
  refine x_i2l dX7_supply_35 ⟨by omega, by omega⟩ ?_
  refine x_ladd dX7_supply_36 ?_
  refine x_lstore dX7_supply_37 (by decide) ?_
  show JX _ _ _ _ _ _ _ _ _ _ _ [_, _, _, _, _, _] _ _
  refine x_lload dX7_supply_39 rfl ?_
  refine x_lconst (e := 0) dX7_supply_41 (by decide) ?_
  refine x_lc_lt (tgt := 55) dX7_supply_42 dX7_supply_43 (by decide) ⟨by omega, by omega⟩ ⟨by omega, by omega⟩ (fun h => absurd h (by omega)) (fun hb43 => ?_)
  refine x_lload dX7_supply_46 rfl ?_
  refine x_ldc2 (e := 100000000) dX7_supply_48 ctl_RX7_103 (by decide) ?_
  refine x_lc_le (tgt := 62) dX7_supply_51 dX7_supply_52 (by decide) ⟨by omega, by omega⟩ ⟨by omega, by omega⟩ (fun h => absurd h (by omega)) (fun hb52 => ?_)
  refine x_aload_n dX7_supply_55 rfl ?_
  refine x_bipush dX7_supply_56 (by decide) ?_
  refine c_RX7_105d dX7_supply_58 rfl (kX7_refuse hB0) (by assumption) (Nat.le_of_ble_eq_true rfl) (Nat.le_of_ble_eq_true rfl) ⟨Nat.le_refl _, Nat.le_refl _⟩ ?_
  exact x_ireturn dX7_supply_61 rfl rfl ⟨Nat.le_refl _, Nat.le_refl _⟩ ⟨rfl, _, rfl, jCl_ref hst (by omega) (by decide)⟩
theorem kX7_supply_y {G : JG} {S : JS} {D : JD} {d : Nat} {X t cz n q : Int} {hs : Int → Int → Int} {r : Int → Int} {i v : Int} (hB : jBL S X) (hz : cz = 0 ∨ cz = 1) (hst : jSt D X t cz n hs r q) (ht : t + 100 ≤ 60000)(h0 : 0 ≤ i) (h1 : i < r 0) (rv : i32 v) (h : -1000000 ≤ v ∧ v ≤ 1000000) (hv : 0 ≤ r (8 + 3 * i) + v ∧ r (8 + 3 * i) + v ≤ 100000000) : JM G yX7_supply cX7_supply 6 (some .int) (d + 5) (0, 0) S D [.inr (.inr (some X)), .inl i, .inl v] (jrP S (jCl D X (t + 100) cz n hs r q (sLv (sAll (rSupply i v r)) i, some (rSupply i v r), 0))) := by
  have hB0 := hB
  obtain ⟨bk, bf, bh, bs, bo, hF, hH, sk, sl, ok, ot, tk, tl⟩ := id hB
  have fk := hF.1
  have hhk := hH.1
  obtain ⟨s5, s4, hR, hI, hi⟩ := id hst
  have hc := hR.ct hI
  have b1 := hI.1
  have e0 := hR.1.1
  have hr : 0 ≤ i ∧ i < r 0 := ⟨h0, h1⟩
  have rk := (hF.2.2.2.2.2.2.2.2.2.2.1 i hr.1 (by omega)).2
  have wp : rPl r i := Or.inl hr
  have we : sWa (X + 1) i = X + 1 + 4 + i := by unfold sWa; rw [if_pos (by omega)]
  have wa : wA i + 2 = 8 + 3 * i := by rw [wA_r (by omega)]; omega
  obtain ⟨w0, w1, w2, w3, -⟩ := hR.wr h0 h1 (by omega)
  have mw := (hI.maxw (by omega)).2.1 i h0 h1
  have mn := hI.wr h0 h1
  show JX _ _ _ _ _ _ _ _ _ _ _ [_, _, _, _, _, _] _ _
  refine x_aload_n dX7_supply_0 rfl ?_
  refine gf_RX7_10 dX7_supply_1 rfl (by assumption) ?_
  rw [bf]
  refine x_iload_n dX7_supply_4 rfl ?_
  refine c_RX7_91d dX7_supply_5 rfl (kX2_reachAt_y hF hc (by omega)) (by assumption) (Nat.le_of_ble_eq_true rfl) (Nat.le_of_ble_eq_true rfl) ⟨Nat.le_refl _, Nat.le_refl _⟩ ?_
  refine x_astore_n dX7_supply_8 (by decide) ?_
  show JX _ _ _ _ _ _ _ _ _ _ _ [_, _, _, _, _, _] _ _
  refine x_aload_n dX7_supply_9 rfl ?_
  refine x_ifnonnull (tgt := 16) dX7_supply_10 (by decide) (fun hb10 => ?_) (fun h => by cases h)
  refine x_iload_n dX7_supply_16 rfl ?_
  refine x_ldc (e := -1000000) dX7_supply_17 ct_RX7_95 (by decide) ?_
  refine x_ldc (e := 1000000) dX7_supply_19 ct_RX7_96 (by decide) ?_
  refine c_RX7_65d dX7_supply_21 rfl (kX7_isWithin rv ⟨by omega, by omega⟩ ⟨by omega, by omega⟩) (Nat.le_of_ble_eq_true rfl) (Nat.le_of_ble_eq_true rfl) ⟨Nat.le_refl _, Nat.le_refl _⟩ ?_
  refine x_if_ne (tgt := 30) dX7_supply_24 (by decide) ⟨by split <;> omega, by split <;> omega⟩ (fun hb24 => ?_) (fun h => (h (by omega)).elim)
  refine x_aload_n dX7_supply_30 rfl ?_
  refine gf_RX7_97 dX7_supply_31 rfl (by assumption) ?_
  rw [w2]
  refine x_iload_n dX7_supply_34 rfl ?_
  refine x_i2l dX7_supply_35 ⟨by omega, by omega⟩ ?_
  refine x_ladd dX7_supply_36 ?_
  refine x_lstore dX7_supply_37 (by decide) ?_
  show JX _ _ _ _ _ _ _ _ _ _ _ [_, _, _, _, _, _] _ _
  refine x_lload dX7_supply_39 rfl ?_
  refine x_lconst (e := 0) dX7_supply_41 (by decide) ?_
  refine x_lc_lt (tgt := 55) dX7_supply_42 dX7_supply_43 (by decide) ⟨by omega, by omega⟩ ⟨by omega, by omega⟩ (fun h => absurd h (by omega)) (fun hb43 => ?_)
  refine x_lload dX7_supply_46 rfl ?_
  refine x_ldc2 (e := 100000000) dX7_supply_48 ctl_RX7_103 (by decide) ?_
  refine x_lc_le (tgt := 62) dX7_supply_51 dX7_supply_52 (by decide) ⟨by omega, by omega⟩ ⟨by omega, by omega⟩ (fun hb52 => ?_) (fun h => (h (by omega)).elim)
  refine x_aload_n dX7_supply_62 rfl ?_
  refine c_RX7_51p dX7_supply_63 rfl (kX7_record hB hz hst) (by assumption) (Nat.le_of_ble_eq_true rfl) (Nat.le_of_ble_eq_true rfl) ⟨Nat.le_refl _, Nat.le_refl _⟩ (fun D1 h1 => ?_)
  obtain ⟨st1, x1⟩ := h1
  obtain ⟨t5, t4, hR1, hI1, hi1⟩ := id st1
  have hc1 := hR1.ct hI1
  refine x_aload_n dX7_supply_66 rfl ?_
  refine x_lload dX7_supply_67 rfl ?_
  refine pf_RX7_97 dX7_supply_69 rfl (by assumption) ?_
  refine x_aload_n dX7_supply_72 rfl ?_
  refine gf_RX7_10 dX7_supply_73 rfl (by assumption) ?_
  rw [bf]
  refine x_dup dX7_supply_76 (fun _ h => by cases h) ?_
  refine gf_RX7_109 dX7_supply_77 rfl (by assumption) ?_
  rw [jup_ne (show X + 1 ≠ X + 1 + 4 + i by omega), hR1.1.2.2.2.2.1]
  refine x_iload_n dX7_supply_80 rfl ?_
  refine x_i2l dX7_supply_81 ⟨by omega, by omega⟩ ?_
  refine x_ladd dX7_supply_82 ?_
  refine pf_RX7_109 dX7_supply_83 rfl (by assumption) ?_
  have hRa := hR1.wat1 hI1 (x := r (8 + 3 * i) + v) wp
  rw [we, wa] at hRa
  have hIa := hI1.wat1 (t2 := t + 100) (x := r (8 + 3 * i) + v) wp hv.1 (by omega) (by rw [wa]; have := hI1.2.2.2.2.1; omega)
  rw [wa] at hIa
  have er : ∀ j : Int, j < 3 ∨ 6 ≤ j → rSupply i v r j = rup r (8 + 3 * i) (r (8 + 3 * i) + v) j := fun j hj => rup_ne (by omega)
  have r3 : rSupply i v r 3 = r 3 := by unfold rSupply; rw [rup_ne (by omega), rup_ne (by omega)]
  have r4 : rSupply i v r 4 = r 4 + v := by unfold rSupply; rw [rup_eq]
  have r5 : rSupply i v r 5 = r 5 := by unfold rSupply; rw [rup_ne (by omega), rup_ne (by omega)]
  have r0 : rup r (8 + 3 * i) (r (8 + 3 * i) + v) 0 = r 0 := rup_ne (by omega)
  have hR2 := hRa.top (r2 := rSupply i v r) (D2 := jup (jup D1 (X + 1 + 4 + i) 2 (r (8 + 3 * i) + v)) (X + 1) 7 (r 4 + v)) hIa er (fun x k hx => jup_ne hx) ⟨jup_nk (by omega), jup_nk (by omega), jup_nk (by omega), by rw [jup_nk (by omega), jup_ne (by omega), r3]; exact hR1.1.2.2.2.1, by rw [jup_eq, r4], by rw [jup_nk (by omega), jup_ne (by omega), r5]; exact hR1.1.2.2.2.2.2⟩
  have hI2 := hIa.top (t2 := t + 100) (r2 := rSupply i v r) (by omega) er (by rw [r3, r4, r5, r0]; omega)
  have r20 : rSupply i v r 0 = r 0 := by rw [er 0 (by omega), r0]
  refine x_aload_n dX7_supply_86 rfl ?_
  refine gf_RX7_10 dX7_supply_87 rfl (by assumption) ?_
  rw [bf]
  refine c_RX7_58p dX7_supply_90 rfl (kX2_settle hF hR2 hI2 (by omega)) (by assumption) (Nat.le_of_ble_eq_true rfl) (Nat.le_of_ble_eq_true rfl) ⟨Nat.le_refl _, Nat.le_refl _⟩ (fun D3 h3 => ?_)
  obtain ⟨hR4, hx4⟩ := h3
  have hI4 := hI2.all
  have k4 := hI2.keep (j := 0) (by omega)
  have wp4 : rPl (sAll (rSupply i v r)) i := Or.inl ⟨by omega, by omega⟩
  have kl := kR_level (G := G) (d := d + 1) hF hR4 hI4 (by omega) wp4
  rw [we] at kl
  refine x_aload_n dX7_supply_93 rfl ?_
  refine c_RX7_112d dX7_supply_94 rfl (kl) (by assumption) (Nat.le_of_ble_eq_true rfl) (Nat.le_of_ble_eq_true rfl) ⟨Nat.le_refl _, Nat.le_refl _⟩ ?_
  refine x_l2i dX7_supply_97 ?_
  exact x_ireturn dX7_supply_98 rfl rfl ⟨Nat.le_refl _, Nat.le_refl _⟩ ⟨rfl, _, rfl, jCl_some x1 st1 (fun x k hx => by rw [jup_ne (by omega), jup_ne (by omega)]) hx4 hR4 hI2 (by omega)⟩
theorem kX7_supply {G : JG} {S : JS} {D : JD} {d : Nat} {X t cz n q : Int} {hs : Int → Int → Int} {r : Int → Int} {i v : Int} (hB : jBL S X) (hz : cz = 0 ∨ cz = 1) (hst : jSt D X t cz n hs r q) (ht : t + 100 ≤ 60000) (ri : i32 i) (rv : i32 v) : JM G yX7_supply cX7_supply 6 (some .int) (d + 5) (0, 0) S D [.inr (.inr (some X)), .inl i, .inl v] (jrP S (jCl D X (t + 100) cz n hs r q (zSupply i v r))) := by
  unfold zSupply
  by_cases h : 0 ≤ i ∧ i < r 0
  · rw [if_pos h]
    by_cases hv : -1000000 ≤ v ∧ v ≤ 1000000
    · rw [if_pos hv]
      by_cases hl : 0 ≤ r (8 + 3 * i) + v ∧ r (8 + 3 * i) + v ≤ 100000000
      · rw [if_pos hl]; exact kX7_supply_y hB hz hst ht h.1 h.2 rv hv hl
      · rw [if_neg hl]
        by_cases h4 : r (8 + 3 * i) + v < 0
        · exact kX7_supply_r1 hB hz hst ht h.1 h.2 rv hv h4
        · exact kX7_supply_r2 hB hz hst ht h.1 h.2 rv hv (by omega)
    · rw [if_neg hv]; exact kX7_supply_b hB hz hst ht h.1 h.2 rv hv
  · rw [if_neg h]; exact kX7_supply_u hB hz hst ht ri h
theorem kX7_load_u {G : JG} {S : JS} {D : JD} {d : Nat} {X t cz n q : Int} {hs : Int → Int → Int} {r : Int → Int} {k v : Int} (hB : jBL S X) (hz : cz = 0 ∨ cz = 1) (hst : jSt D X t cz n hs r q) (ht : t + 100 ≤ 60000)(rk : i32 k) (h : ¬ (0 ≤ k ∧ k < r 2)) : JM G yX7_load cX7_load 5 (some .int) (d + 5) (0, 0) S D [.inr (.inr (some X)), .inl k, .inl v] (jrP S (jCl D X (t + 100) cz n hs r q (-100000001, none, 0))) := by
  have hB0 := hB
  obtain ⟨bk, bf, bh, bs, bo, hF, hH, sk, sl, ok, ot, tk, tl⟩ := id hB
  have fk := hF.1
  have hhk := hH.1
  obtain ⟨s5, s4, hR, hI, hi⟩ := id hst
  have hc := hR.ct hI
  have b1 := hI.1
  have n2 := hR.1.2.2.1
  show JX _ _ _ _ _ _ _ _ _ _ _ [_, _, _, _, _] _ _
  refine x_aload_n dX7_load_0 rfl ?_
  refine gf_RX7_10 dX7_load_1 rfl (by assumption) ?_
  rw [bf]
  refine x_iload_n dX7_load_4 rfl ?_
  refine c_RX7_123d dX7_load_5 rfl (kX2_bargeAt_n hF hc rk (by omega)) (by assumption) (Nat.le_of_ble_eq_true rfl) (Nat.le_of_ble_eq_true rfl) ⟨Nat.le_refl _, Nat.le_refl _⟩ ?_
  refine x_astore_n dX7_load_8 (by decide) ?_
  show JX _ _ _ _ _ _ _ _ _ _ _ [_, _, _, _, _] _ _
  refine x_aload_n dX7_load_9 rfl ?_
  refine x_ifnonnull (tgt := 16) dX7_load_10 (by decide) (fun h => absurd rfl h) (fun hb10 => ?_)
  refine x_ldc (e := -100000001) dX7_load_13 ct_RX7_78 (by decide) ?_
  exact x_ireturn dX7_load_15 rfl rfl ⟨Nat.le_refl _, Nat.le_refl _⟩ ⟨rfl, _, rfl, jCl_none hst (by omega)⟩
theorem kX7_load_b {G : JG} {S : JS} {D : JD} {d : Nat} {X t cz n q : Int} {hs : Int → Int → Int} {r : Int → Int} {k v : Int} (hB : jBL S X) (hz : cz = 0 ∨ cz = 1) (hst : jSt D X t cz n hs r q) (ht : t + 100 ≤ 60000)(h0 : 0 ≤ k) (h1 : k < r 2) (rv : i32 v) (h : ¬ (v ≠ 0 ∧ -1000 ≤ v ∧ v ≤ 1000)) : JM G yX7_load cX7_load 5 (some .int) (d + 5) (0, 0) S D [.inr (.inr (some X)), .inl k, .inl v] (jrP S (jCl D X (t + 100) cz n hs r q (-100000002, none, 0))) := by
  have hB0 := hB
  obtain ⟨bk, bf, bh, bs, bo, hF, hH, sk, sl, ok, ot, tk, tl⟩ := id hB
  have fk := hF.1
  have hhk := hH.1
  obtain ⟨s5, s4, hR, hI, hi⟩ := id hst
  have hc := hR.ct hI
  have b1 := hI.1
  have n2 := hR.1.2.2.1
  have bk := hF.bk hI h0 h1
  obtain ⟨e0, e1, e2, e3, e4, e5, e6, e7⟩ := hR.ba h0 h1
  obtain ⟨bp, w0, w1, i0, i1, d0, d1⟩ := hI.bw h0 h1
  have wk := hF.wat hI bp
  have wf := hR.watS hI bp
  have bl := bp.lin hI (X + 1)
  obtain ⟨wr, wo, wm⟩ := hR.wat hI (by omega) bp
  have bo := hI.2.2.2.1 k h0 h1
  unfold rBo at bo
  unfold rWo at wo
  have hfl := hI.floats (r (71 + 8 * k))
  show JX _ _ _ _ _ _ _ _ _ _ _ [_, _, _, _, _] _ _
  refine x_aload_n dX7_load_0 rfl ?_
  refine gf_RX7_10 dX7_load_1 rfl (by assumption) ?_
  rw [bf]
  refine x_iload_n dX7_load_4 rfl ?_
  refine c_RX7_123d dX7_load_5 rfl (kX2_bargeAt_y hF hc (by omega)) (by assumption) (Nat.le_of_ble_eq_true rfl) (Nat.le_of_ble_eq_true rfl) ⟨Nat.le_refl _, Nat.le_refl _⟩ ?_
  refine x_astore_n dX7_load_8 (by decide) ?_
  show JX _ _ _ _ _ _ _ _ _ _ _ [_, _, _, _, _] _ _
  refine x_aload_n dX7_load_9 rfl ?_
  refine x_ifnonnull (tgt := 16) dX7_load_10 (by decide) (fun hb10 => ?_) (fun h => by cases h)
  refine x_iload_n dX7_load_16 rfl ?_
  refine c_RX7_127d dX7_load_17 rfl (kX7_isTons rv) (Nat.le_of_ble_eq_true rfl) (Nat.le_of_ble_eq_true rfl) ⟨Nat.le_refl _, Nat.le_refl _⟩ ?_
  refine x_if_ne (tgt := 26) dX7_load_20 (by decide) ⟨by split <;> omega, by split <;> omega⟩ (fun h => absurd h (by omega)) (fun hb20 => ?_)
  refine x_ldc (e := -100000002) dX7_load_23 ct_RX7_46 (by decide) ?_
  exact x_ireturn dX7_load_25 rfl rfl ⟨Nat.le_refl _, Nat.le_refl _⟩ ⟨rfl, _, rfl, jCl_none hst (by omega)⟩
theorem kX7_load_n {G : JG} {S : JS} {D : JD} {d : Nat} {X t cz n q : Int} {hs : Int → Int → Int} {r : Int → Int} {k v : Int} (hB : jBL S X) (hz : cz = 0 ∨ cz = 1) (hst : jSt D X t cz n hs r q) (ht : t + 100 ≤ 60000)(h0 : 0 ≤ k) (h1 : k < r 2) (rv : i32 v)(h : v ≠ 0 ∧ -1000 ≤ v ∧ v ≤ 1000) (hc4 : 100 ≤ r (71 + 8 * k)) : JM G yX7_load cX7_load 5 (some .int) (d + 5) (0, 0) S D [.inr (.inr (some X)), .inl k, .inl v] (jrP S (jCl D X (t + 100) cz n hs r q (-100000003, none, 4))) := by
  have hB0 := hB
  obtain ⟨bk, bf, bh, bs, bo, hF, hH, sk, sl, ok, ot, tk, tl⟩ := id hB
  have fk := hF.1
  have hhk := hH.1
  obtain ⟨s5, s4, hR, hI, hi⟩ := id hst
  have hc := hR.ct hI
  have b1 := hI.1
  have n2 := hR.1.2.2.1
  have bk := hF.bk hI h0 h1
  obtain ⟨e0, e1, e2, e3, e4, e5, e6, e7⟩ := hR.ba h0 h1
  obtain ⟨bp, w0, w1, i0, i1, d0, d1⟩ := hI.bw h0 h1
  have wk := hF.wat hI bp
  have wf := hR.watS hI bp
  have bl := bp.lin hI (X + 1)
  obtain ⟨wr, wo, wm⟩ := hR.wat hI (by omega) bp
  have bo := hI.2.2.2.1 k h0 h1
  unfold rBo at bo
  unfold rWo at wo
  have hfl := hI.floats (r (71 + 8 * k))
  show JX _ _ _ _ _ _ _ _ _ _ _ [_, _, _, _, _] _ _
  refine x_aload_n dX7_load_0 rfl ?_
  refine gf_RX7_10 dX7_load_1 rfl (by assumption) ?_
  rw [bf]
  refine x_iload_n dX7_load_4 rfl ?_
  refine c_RX7_123d dX7_load_5 rfl (kX2_bargeAt_y hF hc (by omega)) (by assumption) (Nat.le_of_ble_eq_true rfl) (Nat.le_of_ble_eq_true rfl) ⟨Nat.le_refl _, Nat.le_refl _⟩ ?_
  refine x_astore_n dX7_load_8 (by decide) ?_
  show JX _ _ _ _ _ _ _ _ _ _ _ [_, _, _, _, _] _ _
  refine x_aload_n dX7_load_9 rfl ?_
  refine x_ifnonnull (tgt := 16) dX7_load_10 (by decide) (fun hb10 => ?_) (fun h => by cases h)
  refine x_iload_n dX7_load_16 rfl ?_
  refine c_RX7_127d dX7_load_17 rfl (kX7_isTons rv) (Nat.le_of_ble_eq_true rfl) (Nat.le_of_ble_eq_true rfl) ⟨Nat.le_refl _, Nat.le_refl _⟩ ?_
  refine x_if_ne (tgt := 26) dX7_load_20 (by decide) ⟨by split <;> omega, by split <;> omega⟩ (fun hb20 => ?_) (fun h => (h (by omega)).elim)
  refine x_aload_n dX7_load_26 rfl ?_
  refine gf_RX7_10 dX7_load_27 rfl (by assumption) ?_
  rw [bf]
  refine x_aload_n dX7_load_30 rfl ?_
  refine gf_RX7_131 dX7_load_31 rfl (by assumption) ?_
  rw [e6]
  refine c_RX7_136d dX7_load_34 rfl (kX2_waterAt hF hc ⟨by omega, by omega⟩) (by assumption) (Nat.le_of_ble_eq_true rfl) (Nat.le_of_ble_eq_true rfl) ⟨Nat.le_refl _, Nat.le_refl _⟩ ?_
  rw [wf]
  refine x_astore dX7_load_37 (by decide) ?_
  show JX _ _ _ _ _ _ _ _ _ _ _ [_, _, _, _, _] _ _
  refine x_aload dX7_load_39 rfl ?_
  refine x_ifnull (tgt := 51) dX7_load_41 (by decide) (fun h => by cases h) (fun hb41 => ?_)
  refine x_aload_n dX7_load_44 rfl ?_
  refine c_RX7_139d dX7_load_45 rfl (kX0_isInChamber bk ⟨by omega, by omega⟩) (by assumption) (Nat.le_of_ble_eq_true rfl) (Nat.le_of_ble_eq_true rfl) ⟨Nat.le_refl _, Nat.le_refl _⟩ ?_
  rw [e6]
  refine x_if_eq (tgt := 57) dX7_load_48 (by decide) ⟨by split <;> omega, by split <;> omega⟩ (fun h => absurd h (by omega)) (fun hb48 => ?_)
  refine x_aload_n dX7_load_51 rfl ?_
  refine x_iconst dX7_load_52 ?_
  refine c_RX7_105d dX7_load_53 rfl (kX7_refuse hB0) (by assumption) (Nat.le_of_ble_eq_true rfl) (Nat.le_of_ble_eq_true rfl) ⟨Nat.le_refl _, Nat.le_refl _⟩ ?_
  exact x_ireturn dX7_load_56 rfl rfl ⟨Nat.le_refl _, Nat.le_refl _⟩ ⟨rfl, _, rfl, jCl_ref hst (by omega) (by decide)⟩
theorem kX7_load_r1 {G : JG} {S : JS} {D : JD} {d : Nat} {X t cz n q : Int} {hs : Int → Int → Int} {r : Int → Int} {k v : Int} (hB : jBL S X) (hz : cz = 0 ∨ cz = 1) (hst : jSt D X t cz n hs r q) (ht : t + 100 ≤ 60000)(h0 : 0 ≤ k) (h1 : k < r 2) (rv : i32 v)(h : v ≠ 0 ∧ -1000 ≤ v ∧ v ≤ 1000) (hc4 : ¬ 100 ≤ r (71 + 8 * k)) (hv : r (69 + 8 * k) + v < 0) : JM G yX7_load cX7_load 5 (some .int) (d + 5) (0, 0) S D [.inr (.inr (some X)), .inl k, .inl v] (jrP S (jCl D X (t + 100) cz n hs r q (-100000003, none, 8))) := by
  have hB0 := hB
  obtain ⟨bk, bf, bh, bs, bo, hF, hH, sk, sl, ok, ot, tk, tl⟩ := id hB
  have fk := hF.1
  have hhk := hH.1
  obtain ⟨s5, s4, hR, hI, hi⟩ := id hst
  have hc := hR.ct hI
  have b1 := hI.1
  have n2 := hR.1.2.2.1
  have bk := hF.bk hI h0 h1
  obtain ⟨e0, e1, e2, e3, e4, e5, e6, e7⟩ := hR.ba h0 h1
  obtain ⟨bp, w0, w1, i0, i1, d0, d1⟩ := hI.bw h0 h1
  have wk := hF.wat hI bp
  have wf := hR.watS hI bp
  have bl := bp.lin hI (X + 1)
  obtain ⟨wr, wo, wm⟩ := hR.wat hI (by omega) bp
  have bo := hI.2.2.2.1 k h0 h1
  unfold rBo at bo
  unfold rWo at wo
  have hfl := hI.floats (r (71 + 8 * k))
  show JX _ _ _ _ _ _ _ _ _ _ _ [_, _, _, _, _] _ _
  refine x_aload_n dX7_load_0 rfl ?_
  refine gf_RX7_10 dX7_load_1 rfl (by assumption) ?_
  rw [bf]
  refine x_iload_n dX7_load_4 rfl ?_
  refine c_RX7_123d dX7_load_5 rfl (kX2_bargeAt_y hF hc (by omega)) (by assumption) (Nat.le_of_ble_eq_true rfl) (Nat.le_of_ble_eq_true rfl) ⟨Nat.le_refl _, Nat.le_refl _⟩ ?_
  refine x_astore_n dX7_load_8 (by decide) ?_
  show JX _ _ _ _ _ _ _ _ _ _ _ [_, _, _, _, _] _ _
  refine x_aload_n dX7_load_9 rfl ?_
  refine x_ifnonnull (tgt := 16) dX7_load_10 (by decide) (fun hb10 => ?_) (fun h => by cases h)
  refine x_iload_n dX7_load_16 rfl ?_
  refine c_RX7_127d dX7_load_17 rfl (kX7_isTons rv) (Nat.le_of_ble_eq_true rfl) (Nat.le_of_ble_eq_true rfl) ⟨Nat.le_refl _, Nat.le_refl _⟩ ?_
  refine x_if_ne (tgt := 26) dX7_load_20 (by decide) ⟨by split <;> omega, by split <;> omega⟩ (fun hb20 => ?_) (fun h => (h (by omega)).elim)
  refine x_aload_n dX7_load_26 rfl ?_
  refine gf_RX7_10 dX7_load_27 rfl (by assumption) ?_
  rw [bf]
  refine x_aload_n dX7_load_30 rfl ?_
  refine gf_RX7_131 dX7_load_31 rfl (by assumption) ?_
  rw [e6]
  refine c_RX7_136d dX7_load_34 rfl (kX2_waterAt hF hc ⟨by omega, by omega⟩) (by assumption) (Nat.le_of_ble_eq_true rfl) (Nat.le_of_ble_eq_true rfl) ⟨Nat.le_refl _, Nat.le_refl _⟩ ?_
  rw [wf]
  refine x_astore dX7_load_37 (by decide) ?_
  show JX _ _ _ _ _ _ _ _ _ _ _ [_, _, _, _, _] _ _
  refine x_aload dX7_load_39 rfl ?_
  refine x_ifnull (tgt := 51) dX7_load_41 (by decide) (fun h => by cases h) (fun hb41 => ?_)
  refine x_aload_n dX7_load_44 rfl ?_
  refine c_RX7_139d dX7_load_45 rfl (kX0_isInChamber bk ⟨by omega, by omega⟩) (by assumption) (Nat.le_of_ble_eq_true rfl) (Nat.le_of_ble_eq_true rfl) ⟨Nat.le_refl _, Nat.le_refl _⟩ ?_
  rw [e6]
  refine x_if_eq (tgt := 57) dX7_load_48 (by decide) ⟨by split <;> omega, by split <;> omega⟩ (fun hb48 => ?_) (fun h => (h (by omega)).elim)
  refine x_aload_n dX7_load_57 rfl ?_
  refine gf_RX7_143 dX7_load_58 rfl (by assumption) ?_
  rw [e4]
  refine x_iload_n dX7_load_61 rfl ?_
  refine x_iadd dX7_load_62 ?_
  refine x_if_lt (tgt := 74) dX7_load_63 (by decide) ⟨by omega, by omega⟩ (fun hb63 => ?_) (fun h => (h (by omega)).elim)
  refine x_aload_n dX7_load_74 rfl ?_
  refine x_bipush dX7_load_75 (by decide) ?_
  refine c_RX7_105d dX7_load_77 rfl (kX7_refuse hB0) (by assumption) (Nat.le_of_ble_eq_true rfl) (Nat.le_of_ble_eq_true rfl) ⟨Nat.le_refl _, Nat.le_refl _⟩ ?_
  exact x_ireturn dX7_load_80 rfl rfl ⟨Nat.le_refl _, Nat.le_refl _⟩ ⟨rfl, _, rfl, jCl_ref hst (by omega) (by decide)⟩
theorem kX7_load_r2 {G : JG} {S : JS} {D : JD} {d : Nat} {X t cz n q : Int} {hs : Int → Int → Int} {r : Int → Int} {k v : Int} (hB : jBL S X) (hz : cz = 0 ∨ cz = 1) (hst : jSt D X t cz n hs r q) (ht : t + 100 ≤ 60000)(h0 : 0 ≤ k) (h1 : k < r 2) (rv : i32 v)(h : v ≠ 0 ∧ -1000 ≤ v ∧ v ≤ 1000) (hc4 : ¬ 100 ≤ r (71 + 8 * k)) (hv : ¬ r (69 + 8 * k) + v < 0) (hw : r (68 + 8 * k) - r (69 + 8 * k) - r (70 + 8 * k) < v) : JM G yX7_load cX7_load 5 (some .int) (d + 5) (0, 0) S D [.inr (.inr (some X)), .inl k, .inl v] (jrP S (jCl D X (t + 100) cz n hs r q (-100000003, none, 8))) := by
  have hB0 := hB
  obtain ⟨bk, bf, bh, bs, bo, hF, hH, sk, sl, ok, ot, tk, tl⟩ := id hB
  have fk := hF.1
  have hhk := hH.1
  obtain ⟨s5, s4, hR, hI, hi⟩ := id hst
  have hc := hR.ct hI
  have b1 := hI.1
  have n2 := hR.1.2.2.1
  have bk := hF.bk hI h0 h1
  obtain ⟨e0, e1, e2, e3, e4, e5, e6, e7⟩ := hR.ba h0 h1
  obtain ⟨bp, w0, w1, i0, i1, d0, d1⟩ := hI.bw h0 h1
  have wk := hF.wat hI bp
  have wf := hR.watS hI bp
  have bl := bp.lin hI (X + 1)
  obtain ⟨wr, wo, wm⟩ := hR.wat hI (by omega) bp
  have bo := hI.2.2.2.1 k h0 h1
  unfold rBo at bo
  unfold rWo at wo
  have hfl := hI.floats (r (71 + 8 * k))
  show JX _ _ _ _ _ _ _ _ _ _ _ [_, _, _, _, _] _ _
  refine x_aload_n dX7_load_0 rfl ?_
  refine gf_RX7_10 dX7_load_1 rfl (by assumption) ?_
  rw [bf]
  refine x_iload_n dX7_load_4 rfl ?_
  refine c_RX7_123d dX7_load_5 rfl (kX2_bargeAt_y hF hc (by omega)) (by assumption) (Nat.le_of_ble_eq_true rfl) (Nat.le_of_ble_eq_true rfl) ⟨Nat.le_refl _, Nat.le_refl _⟩ ?_
  refine x_astore_n dX7_load_8 (by decide) ?_
  show JX _ _ _ _ _ _ _ _ _ _ _ [_, _, _, _, _] _ _
  refine x_aload_n dX7_load_9 rfl ?_
  refine x_ifnonnull (tgt := 16) dX7_load_10 (by decide) (fun hb10 => ?_) (fun h => by cases h)
  refine x_iload_n dX7_load_16 rfl ?_
  refine c_RX7_127d dX7_load_17 rfl (kX7_isTons rv) (Nat.le_of_ble_eq_true rfl) (Nat.le_of_ble_eq_true rfl) ⟨Nat.le_refl _, Nat.le_refl _⟩ ?_
  refine x_if_ne (tgt := 26) dX7_load_20 (by decide) ⟨by split <;> omega, by split <;> omega⟩ (fun hb20 => ?_) (fun h => (h (by omega)).elim)
  refine x_aload_n dX7_load_26 rfl ?_
  refine gf_RX7_10 dX7_load_27 rfl (by assumption) ?_
  rw [bf]
  refine x_aload_n dX7_load_30 rfl ?_
  refine gf_RX7_131 dX7_load_31 rfl (by assumption) ?_
  rw [e6]
  refine c_RX7_136d dX7_load_34 rfl (kX2_waterAt hF hc ⟨by omega, by omega⟩) (by assumption) (Nat.le_of_ble_eq_true rfl) (Nat.le_of_ble_eq_true rfl) ⟨Nat.le_refl _, Nat.le_refl _⟩ ?_
  rw [wf]
  refine x_astore dX7_load_37 (by decide) ?_
  show JX _ _ _ _ _ _ _ _ _ _ _ [_, _, _, _, _] _ _
  refine x_aload dX7_load_39 rfl ?_
  refine x_ifnull (tgt := 51) dX7_load_41 (by decide) (fun h => by cases h) (fun hb41 => ?_)
  refine x_aload_n dX7_load_44 rfl ?_
  refine c_RX7_139d dX7_load_45 rfl (kX0_isInChamber bk ⟨by omega, by omega⟩) (by assumption) (Nat.le_of_ble_eq_true rfl) (Nat.le_of_ble_eq_true rfl) ⟨Nat.le_refl _, Nat.le_refl _⟩ ?_
  rw [e6]
  refine x_if_eq (tgt := 57) dX7_load_48 (by decide) ⟨by split <;> omega, by split <;> omega⟩ (fun hb48 => ?_) (fun h => (h (by omega)).elim)
  refine x_aload_n dX7_load_57 rfl ?_
  refine gf_RX7_143 dX7_load_58 rfl (by assumption) ?_
  rw [e4]
  refine x_iload_n dX7_load_61 rfl ?_
  refine x_iadd dX7_load_62 ?_
  refine x_if_lt (tgt := 74) dX7_load_63 (by decide) ⟨by omega, by omega⟩ (fun h => absurd h (by omega)) (fun hb63 => ?_)
  refine x_iload_n dX7_load_66 rfl ?_
  refine x_aload_n dX7_load_67 rfl ?_
  refine c_RX7_146d dX7_load_68 rfl (kR_freeHold hF hR hI h0 h1) (by assumption) (Nat.le_of_ble_eq_true rfl) (Nat.le_of_ble_eq_true rfl) ⟨Nat.le_refl _, Nat.le_refl _⟩ ?_
  refine x_ic_le (tgt := 81) dX7_load_71 (by decide) ⟨by omega, by omega⟩ ⟨by omega, by omega⟩ (fun h => absurd h (by omega)) (fun hb71 => ?_)
  refine x_aload_n dX7_load_74 rfl ?_
  refine x_bipush dX7_load_75 (by decide) ?_
  refine c_RX7_105d dX7_load_77 rfl (kX7_refuse hB0) (by assumption) (Nat.le_of_ble_eq_true rfl) (Nat.le_of_ble_eq_true rfl) ⟨Nat.le_refl _, Nat.le_refl _⟩ ?_
  exact x_ireturn dX7_load_80 rfl rfl ⟨Nat.le_refl _, Nat.le_refl _⟩ ⟨rfl, _, rfl, jCl_ref hst (by omega) (by decide)⟩
theorem kX7_load_y {G : JG} {S : JS} {D : JD} {d : Nat} {X t cz n q : Int} {hs : Int → Int → Int} {r : Int → Int} {k v : Int} (hB : jBL S X) (hz : cz = 0 ∨ cz = 1) (hst : jSt D X t cz n hs r q) (ht : t + 100 ≤ 60000)(h0 : 0 ≤ k) (h1 : k < r 2) (rv : i32 v)(h : v ≠ 0 ∧ -1000 ≤ v ∧ v ≤ 1000) (hc4 : ¬ 100 ≤ r (71 + 8 * k)) (hv : 0 ≤ r (69 + 8 * k) + v ∧ v ≤ r (68 + 8 * k) - r (69 + 8 * k) - r (70 + 8 * k)) : JM G yX7_load cX7_load 5 (some .int) (d + 5) (0, 0) S D [.inr (.inr (some X)), .inl k, .inl v] (jrP S (jCl D X (t + 100) cz n hs r q (sDr (rLoad k v r) k, some (rLoad k v r), 0))) := by
  have hB0 := hB
  obtain ⟨bk, bf, bh, bs, bo, hF, hH, sk, sl, ok, ot, tk, tl⟩ := id hB
  have fk := hF.1
  have hhk := hH.1
  obtain ⟨s5, s4, hR, hI, hi⟩ := id hst
  have hc := hR.ct hI
  have b1 := hI.1
  have n2 := hR.1.2.2.1
  have bk := hF.bk hI h0 h1
  obtain ⟨e0, e1, e2, e3, e4, e5, e6, e7⟩ := hR.ba h0 h1
  obtain ⟨bp, w0, w1, i0, i1, d0, d1⟩ := hI.bw h0 h1
  have wk := hF.wat hI bp
  have wf := hR.watS hI bp
  have bl := bp.lin hI (X + 1)
  obtain ⟨wr, wo, wm⟩ := hR.wat hI (by omega) bp
  have bo := hI.2.2.2.1 k h0 h1
  unfold rBo at bo
  unfold rWo at wo
  have hfl := hI.floats (r (71 + 8 * k))
  show JX _ _ _ _ _ _ _ _ _ _ _ [_, _, _, _, _] _ _
  refine x_aload_n dX7_load_0 rfl ?_
  refine gf_RX7_10 dX7_load_1 rfl (by assumption) ?_
  rw [bf]
  refine x_iload_n dX7_load_4 rfl ?_
  refine c_RX7_123d dX7_load_5 rfl (kX2_bargeAt_y hF hc (by omega)) (by assumption) (Nat.le_of_ble_eq_true rfl) (Nat.le_of_ble_eq_true rfl) ⟨Nat.le_refl _, Nat.le_refl _⟩ ?_
  refine x_astore_n dX7_load_8 (by decide) ?_
  show JX _ _ _ _ _ _ _ _ _ _ _ [_, _, _, _, _] _ _
  refine x_aload_n dX7_load_9 rfl ?_
  refine x_ifnonnull (tgt := 16) dX7_load_10 (by decide) (fun hb10 => ?_) (fun h => by cases h)
  refine x_iload_n dX7_load_16 rfl ?_
  refine c_RX7_127d dX7_load_17 rfl (kX7_isTons rv) (Nat.le_of_ble_eq_true rfl) (Nat.le_of_ble_eq_true rfl) ⟨Nat.le_refl _, Nat.le_refl _⟩ ?_
  refine x_if_ne (tgt := 26) dX7_load_20 (by decide) ⟨by split <;> omega, by split <;> omega⟩ (fun hb20 => ?_) (fun h => (h (by omega)).elim)
  refine x_aload_n dX7_load_26 rfl ?_
  refine gf_RX7_10 dX7_load_27 rfl (by assumption) ?_
  rw [bf]
  refine x_aload_n dX7_load_30 rfl ?_
  refine gf_RX7_131 dX7_load_31 rfl (by assumption) ?_
  rw [e6]
  refine c_RX7_136d dX7_load_34 rfl (kX2_waterAt hF hc ⟨by omega, by omega⟩) (by assumption) (Nat.le_of_ble_eq_true rfl) (Nat.le_of_ble_eq_true rfl) ⟨Nat.le_refl _, Nat.le_refl _⟩ ?_
  rw [wf]
  refine x_astore dX7_load_37 (by decide) ?_
  show JX _ _ _ _ _ _ _ _ _ _ _ [_, _, _, _, _] _ _
  refine x_aload dX7_load_39 rfl ?_
  refine x_ifnull (tgt := 51) dX7_load_41 (by decide) (fun h => by cases h) (fun hb41 => ?_)
  refine x_aload_n dX7_load_44 rfl ?_
  refine c_RX7_139d dX7_load_45 rfl (kX0_isInChamber bk ⟨by omega, by omega⟩) (by assumption) (Nat.le_of_ble_eq_true rfl) (Nat.le_of_ble_eq_true rfl) ⟨Nat.le_refl _, Nat.le_refl _⟩ ?_
  rw [e6]
  refine x_if_eq (tgt := 57) dX7_load_48 (by decide) ⟨by split <;> omega, by split <;> omega⟩ (fun hb48 => ?_) (fun h => (h (by omega)).elim)
  refine x_aload_n dX7_load_57 rfl ?_
  refine gf_RX7_143 dX7_load_58 rfl (by assumption) ?_
  rw [e4]
  refine x_iload_n dX7_load_61 rfl ?_
  refine x_iadd dX7_load_62 ?_
  refine x_if_lt (tgt := 74) dX7_load_63 (by decide) ⟨by omega, by omega⟩ (fun h => absurd h (by omega)) (fun hb63 => ?_)
  refine x_iload_n dX7_load_66 rfl ?_
  refine x_aload_n dX7_load_67 rfl ?_
  refine c_RX7_146d dX7_load_68 rfl (kR_freeHold hF hR hI h0 h1) (by assumption) (Nat.le_of_ble_eq_true rfl) (Nat.le_of_ble_eq_true rfl) ⟨Nat.le_refl _, Nat.le_refl _⟩ ?_
  refine x_ic_le (tgt := 81) dX7_load_71 (by decide) ⟨by omega, by omega⟩ ⟨by omega, by omega⟩ (fun hb71 => ?_) (fun h => (h (by omega)).elim)
  refine x_aload_n dX7_load_81 rfl ?_
  refine c_RX7_51p dX7_load_82 rfl (kX7_record hB hz hst) (by assumption) (Nat.le_of_ble_eq_true rfl) (Nat.le_of_ble_eq_true rfl) ⟨Nat.le_refl _, Nat.le_refl _⟩ (fun D1 h1 => ?_)
  obtain ⟨st1, x1⟩ := h1
  obtain ⟨t5, t4, hR1, hI1, hi1⟩ := id st1
  have hc1 := hR1.ct hI1
  obtain ⟨v0, v1, v2, v3, v4, v5, v6, v7⟩ := hR1.ba h0 h1
  have wr1 := (hR1.wat hI1 (by omega) bp).1.2.2.2.1
  refine x_aload_n dX7_load_85 rfl ?_
  refine x_dup dX7_load_86 (fun _ h => by cases h) ?_
  refine gf_RX7_143 dX7_load_87 rfl (by assumption) ?_
  rw [v4]
  refine x_iload_n dX7_load_90 rfl ?_
  refine x_iadd dX7_load_91 ?_
  refine pf_RX7_143 dX7_load_92 rfl (by assumption) ?_
  refine x_aload dX7_load_95 rfl ?_
  refine x_dup dX7_load_97 (fun _ h => by cases h) ?_
  refine gf_RX7_150 dX7_load_98 rfl (by assumption) ?_
  rw [jup_ne (show sWa (X + 1) (r (71 + 8 * k)) ≠ X + 1 + 29 + k by omega), wr1]
  refine x_iload_n dX7_load_101 rfl ?_
  refine x_i2l dX7_load_102 ⟨by omega, by omega⟩ ?_
  refine x_ladd dX7_load_103 ?_
  refine pf_RX7_150 dX7_load_104 rfl (by assumption) ?_
  have hR2 := hR1.put hI1 h0 h1 (f := 69 + 8 * k) (z := 4) (v := v) (by omega)
  have hI2 := hI1.put (t2 := t + 100) (f := 69 + 8 * k) (v := v) (by omega) h0 h1 (by omega) (by omega) (by omega) (by have := hI1.2.2.2.2.1; split <;> omega)
  have r22 : rup r (69 + 8 * k) (r (69 + 8 * k) + v) 2 = r 2 := rup_ne (by omega)
  refine x_aload_n dX7_load_107 rfl ?_
  refine gf_RX7_10 dX7_load_108 rfl (by assumption) ?_
  rw [bf]
  refine c_RX7_58p dX7_load_111 rfl (kX2_settle hF hR2 hI2 (by omega)) (by assumption) (Nat.le_of_ble_eq_true rfl) (Nat.le_of_ble_eq_true rfl) ⟨Nat.le_refl _, Nat.le_refl _⟩ (fun D3 h3 => ?_)
  obtain ⟨hR4, hx4⟩ := h3
  have hI4 := hI2.all
  have k4 := hI2.keep (j := 2) (by omega)
  refine x_aload_n dX7_load_114 rfl ?_
  refine c_RX7_153d dX7_load_115 rfl (kR_draught hF hR4 hI4 h0 (by omega)) (by assumption) (Nat.le_of_ble_eq_true rfl) (Nat.le_of_ble_eq_true rfl) ⟨Nat.le_refl _, Nat.le_refl _⟩ ?_
  exact x_ireturn dX7_load_118 rfl rfl ⟨Nat.le_refl _, Nat.le_refl _⟩ ⟨rfl, _, by rw [sDr_all hI2 h0]; rfl, jCl_some x1 st1 (fun x y hx => by rw [jup_ne (by omega), jup_ne (by omega)]) hx4 hR4 hI2 (by omega)⟩
theorem kX7_pump_u {G : JG} {S : JS} {D : JD} {d : Nat} {X t cz n q : Int} {hs : Int → Int → Int} {r : Int → Int} {k v : Int} (hB : jBL S X) (hz : cz = 0 ∨ cz = 1) (hst : jSt D X t cz n hs r q) (ht : t + 100 ≤ 60000)(rk : i32 k) (h : ¬ (0 ≤ k ∧ k < r 2)) : JM G yX7_pump cX7_pump 5 (some .int) (d + 5) (0, 0) S D [.inr (.inr (some X)), .inl k, .inl v] (jrP S (jCl D X (t + 100) cz n hs r q (-100000001, none, 0))) := by
  have hB0 := hB
  obtain ⟨bk, bf, bh, bs, bo, hF, hH, sk, sl, ok, ot, tk, tl⟩ := id hB
  have fk := hF.1
  have hhk := hH.1
  obtain ⟨s5, s4, hR, hI, hi⟩ := id hst
  have hc := hR.ct hI
  have b1 := hI.1
  have n2 := hR.1.2.2.1
  show JX _ _ _ _ _ _ _ _ _ _ _ [_, _, _, _, _] _ _
  refine x_aload_n dX7_pump_0 rfl ?_
  refine gf_RX7_10 dX7_pump_1 rfl (by assumption) ?_
  rw [bf]
  refine x_iload_n dX7_pump_4 rfl ?_
  refine c_RX7_123d dX7_pump_5 rfl (kX2_bargeAt_n hF hc rk (by omega)) (by assumption) (Nat.le_of_ble_eq_true rfl) (Nat.le_of_ble_eq_true rfl) ⟨Nat.le_refl _, Nat.le_refl _⟩ ?_
  refine x_astore_n dX7_pump_8 (by decide) ?_
  show JX _ _ _ _ _ _ _ _ _ _ _ [_, _, _, _, _] _ _
  refine x_aload_n dX7_pump_9 rfl ?_
  refine x_ifnonnull (tgt := 16) dX7_pump_10 (by decide) (fun h => absurd rfl h) (fun hb10 => ?_)
  refine x_ldc (e := -100000001) dX7_pump_13 ct_RX7_78 (by decide) ?_
  exact x_ireturn dX7_pump_15 rfl rfl ⟨Nat.le_refl _, Nat.le_refl _⟩ ⟨rfl, _, rfl, jCl_none hst (by omega)⟩
theorem kX7_pump_b {G : JG} {S : JS} {D : JD} {d : Nat} {X t cz n q : Int} {hs : Int → Int → Int} {r : Int → Int} {k v : Int} (hB : jBL S X) (hz : cz = 0 ∨ cz = 1) (hst : jSt D X t cz n hs r q) (ht : t + 100 ≤ 60000)(h0 : 0 ≤ k) (h1 : k < r 2) (rv : i32 v) (h : ¬ (v ≠ 0 ∧ -1000 ≤ v ∧ v ≤ 1000)) : JM G yX7_pump cX7_pump 5 (some .int) (d + 5) (0, 0) S D [.inr (.inr (some X)), .inl k, .inl v] (jrP S (jCl D X (t + 100) cz n hs r q (-100000002, none, 0))) := by
  have hB0 := hB
  obtain ⟨bk, bf, bh, bs, bo, hF, hH, sk, sl, ok, ot, tk, tl⟩ := id hB
  have fk := hF.1
  have hhk := hH.1
  obtain ⟨s5, s4, hR, hI, hi⟩ := id hst
  have hc := hR.ct hI
  have b1 := hI.1
  have n2 := hR.1.2.2.1
  have bk := hF.bk hI h0 h1
  obtain ⟨e0, e1, e2, e3, e4, e5, e6, e7⟩ := hR.ba h0 h1
  obtain ⟨bp, w0, w1, i0, i1, d0, d1⟩ := hI.bw h0 h1
  have wk := hF.wat hI bp
  have wf := hR.watS hI bp
  have bl := bp.lin hI (X + 1)
  obtain ⟨wr, wo, wm⟩ := hR.wat hI (by omega) bp
  have bo := hI.2.2.2.1 k h0 h1
  unfold rBo at bo
  unfold rWo at wo
  have hfl := hI.floats (r (71 + 8 * k))
  show JX _ _ _ _ _ _ _ _ _ _ _ [_, _, _, _, _] _ _
  refine x_aload_n dX7_pump_0 rfl ?_
  refine gf_RX7_10 dX7_pump_1 rfl (by assumption) ?_
  rw [bf]
  refine x_iload_n dX7_pump_4 rfl ?_
  refine c_RX7_123d dX7_pump_5 rfl (kX2_bargeAt_y hF hc (by omega)) (by assumption) (Nat.le_of_ble_eq_true rfl) (Nat.le_of_ble_eq_true rfl) ⟨Nat.le_refl _, Nat.le_refl _⟩ ?_
  refine x_astore_n dX7_pump_8 (by decide) ?_
  show JX _ _ _ _ _ _ _ _ _ _ _ [_, _, _, _, _] _ _
  refine x_aload_n dX7_pump_9 rfl ?_
  refine x_ifnonnull (tgt := 16) dX7_pump_10 (by decide) (fun hb10 => ?_) (fun h => by cases h)
  refine x_iload_n dX7_pump_16 rfl ?_
  refine c_RX7_127d dX7_pump_17 rfl (kX7_isTons rv) (Nat.le_of_ble_eq_true rfl) (Nat.le_of_ble_eq_true rfl) ⟨Nat.le_refl _, Nat.le_refl _⟩ ?_
  refine x_if_ne (tgt := 26) dX7_pump_20 (by decide) ⟨by split <;> omega, by split <;> omega⟩ (fun h => absurd h (by omega)) (fun hb20 => ?_)
  refine x_ldc (e := -100000002) dX7_pump_23 ct_RX7_46 (by decide) ?_
  exact x_ireturn dX7_pump_25 rfl rfl ⟨Nat.le_refl _, Nat.le_refl _⟩ ⟨rfl, _, rfl, jCl_none hst (by omega)⟩
theorem kX7_pump_r0 {G : JG} {S : JS} {D : JD} {d : Nat} {X t cz n q : Int} {hs : Int → Int → Int} {r : Int → Int} {k v : Int} (hB : jBL S X) (hz : cz = 0 ∨ cz = 1) (hst : jSt D X t cz n hs r q) (ht : t + 100 ≤ 60000)(h0 : 0 ≤ k) (h1 : k < r 2) (rv : i32 v)(h : v ≠ 0 ∧ -1000 ≤ v ∧ v ≤ 1000) (hv : r (wA (r (71 + 8 * k)) + 2) < v) : JM G yX7_pump cX7_pump 5 (some .int) (d + 5) (0, 0) S D [.inr (.inr (some X)), .inl k, .inl v] (jrP S (jCl D X (t + 100) cz n hs r q (-100000003, none, 8))) := by
  have hB0 := hB
  obtain ⟨bk, bf, bh, bs, bo, hF, hH, sk, sl, ok, ot, tk, tl⟩ := id hB
  have fk := hF.1
  have hhk := hH.1
  obtain ⟨s5, s4, hR, hI, hi⟩ := id hst
  have hc := hR.ct hI
  have b1 := hI.1
  have n2 := hR.1.2.2.1
  have bk := hF.bk hI h0 h1
  obtain ⟨e0, e1, e2, e3, e4, e5, e6, e7⟩ := hR.ba h0 h1
  obtain ⟨bp, w0, w1, i0, i1, d0, d1⟩ := hI.bw h0 h1
  have wk := hF.wat hI bp
  have wf := hR.watS hI bp
  have bl := bp.lin hI (X + 1)
  obtain ⟨wr, wo, wm⟩ := hR.wat hI (by omega) bp
  have bo := hI.2.2.2.1 k h0 h1
  unfold rBo at bo
  unfold rWo at wo
  have hfl := hI.floats (r (71 + 8 * k))
  show JX _ _ _ _ _ _ _ _ _ _ _ [_, _, _, _, _] _ _
  refine x_aload_n dX7_pump_0 rfl ?_
  refine gf_RX7_10 dX7_pump_1 rfl (by assumption) ?_
  rw [bf]
  refine x_iload_n dX7_pump_4 rfl ?_
  refine c_RX7_123d dX7_pump_5 rfl (kX2_bargeAt_y hF hc (by omega)) (by assumption) (Nat.le_of_ble_eq_true rfl) (Nat.le_of_ble_eq_true rfl) ⟨Nat.le_refl _, Nat.le_refl _⟩ ?_
  refine x_astore_n dX7_pump_8 (by decide) ?_
  show JX _ _ _ _ _ _ _ _ _ _ _ [_, _, _, _, _] _ _
  refine x_aload_n dX7_pump_9 rfl ?_
  refine x_ifnonnull (tgt := 16) dX7_pump_10 (by decide) (fun hb10 => ?_) (fun h => by cases h)
  refine x_iload_n dX7_pump_16 rfl ?_
  refine c_RX7_127d dX7_pump_17 rfl (kX7_isTons rv) (Nat.le_of_ble_eq_true rfl) (Nat.le_of_ble_eq_true rfl) ⟨Nat.le_refl _, Nat.le_refl _⟩ ?_
  refine x_if_ne (tgt := 26) dX7_pump_20 (by decide) ⟨by split <;> omega, by split <;> omega⟩ (fun hb20 => ?_) (fun h => (h (by omega)).elim)
  refine x_aload_n dX7_pump_26 rfl ?_
  refine gf_RX7_10 dX7_pump_27 rfl (by assumption) ?_
  rw [bf]
  refine x_aload_n dX7_pump_30 rfl ?_
  refine gf_RX7_131 dX7_pump_31 rfl (by assumption) ?_
  rw [e6]
  refine c_RX7_136d dX7_pump_34 rfl (kX2_waterAt hF hc ⟨by omega, by omega⟩) (by assumption) (Nat.le_of_ble_eq_true rfl) (Nat.le_of_ble_eq_true rfl) ⟨Nat.le_refl _, Nat.le_refl _⟩ ?_
  rw [wf]
  refine x_astore dX7_pump_37 (by decide) ?_
  show JX _ _ _ _ _ _ _ _ _ _ _ [_, _, _, _, _] _ _
  refine x_aload dX7_pump_39 rfl ?_
  refine x_ifnull (tgt := 55) dX7_pump_41 (by decide) (fun h => by cases h) (fun hb41 => ?_)
  refine x_iload_n dX7_pump_44 rfl ?_
  refine x_i2l dX7_pump_45 ⟨by omega, by omega⟩ ?_
  refine x_aload dX7_pump_46 rfl ?_
  refine gf_RX7_97 dX7_pump_48 rfl (by assumption) ?_
  rw [wr.2.2.1]
  refine x_lc_le (tgt := 62) dX7_pump_51 dX7_pump_52 (by decide) ⟨by omega, by omega⟩ ⟨by omega, by omega⟩ (fun h => absurd h (by omega)) (fun hb52 => ?_)
  refine x_aload_n dX7_pump_55 rfl ?_
  refine x_bipush dX7_pump_56 (by decide) ?_
  refine c_RX7_105d dX7_pump_58 rfl (kX7_refuse hB0) (by assumption) (Nat.le_of_ble_eq_true rfl) (Nat.le_of_ble_eq_true rfl) ⟨Nat.le_refl _, Nat.le_refl _⟩ ?_
  exact x_ireturn dX7_pump_61 rfl rfl ⟨Nat.le_refl _, Nat.le_refl _⟩ ⟨rfl, _, rfl, jCl_ref hst (by omega) (by decide)⟩
theorem kX7_pump_r1 {G : JG} {S : JS} {D : JD} {d : Nat} {X t cz n q : Int} {hs : Int → Int → Int} {r : Int → Int} {k v : Int} (hB : jBL S X) (hz : cz = 0 ∨ cz = 1) (hst : jSt D X t cz n hs r q) (ht : t + 100 ≤ 60000)(h0 : 0 ≤ k) (h1 : k < r 2) (rv : i32 v)(h : v ≠ 0 ∧ -1000 ≤ v ∧ v ≤ 1000) (hu : v ≤ r (wA (r (71 + 8 * k)) + 2)) (hv : r (70 + 8 * k) + v < 0) : JM G yX7_pump cX7_pump 5 (some .int) (d + 5) (0, 0) S D [.inr (.inr (some X)), .inl k, .inl v] (jrP S (jCl D X (t + 100) cz n hs r q (-100000003, none, 8))) := by
  have hB0 := hB
  obtain ⟨bk, bf, bh, bs, bo, hF, hH, sk, sl, ok, ot, tk, tl⟩ := id hB
  have fk := hF.1
  have hhk := hH.1
  obtain ⟨s5, s4, hR, hI, hi⟩ := id hst
  have hc := hR.ct hI
  have b1 := hI.1
  have n2 := hR.1.2.2.1
  have bk := hF.bk hI h0 h1
  obtain ⟨e0, e1, e2, e3, e4, e5, e6, e7⟩ := hR.ba h0 h1
  obtain ⟨bp, w0, w1, i0, i1, d0, d1⟩ := hI.bw h0 h1
  have wk := hF.wat hI bp
  have wf := hR.watS hI bp
  have bl := bp.lin hI (X + 1)
  obtain ⟨wr, wo, wm⟩ := hR.wat hI (by omega) bp
  have bo := hI.2.2.2.1 k h0 h1
  unfold rBo at bo
  unfold rWo at wo
  have hfl := hI.floats (r (71 + 8 * k))
  show JX _ _ _ _ _ _ _ _ _ _ _ [_, _, _, _, _] _ _
  refine x_aload_n dX7_pump_0 rfl ?_
  refine gf_RX7_10 dX7_pump_1 rfl (by assumption) ?_
  rw [bf]
  refine x_iload_n dX7_pump_4 rfl ?_
  refine c_RX7_123d dX7_pump_5 rfl (kX2_bargeAt_y hF hc (by omega)) (by assumption) (Nat.le_of_ble_eq_true rfl) (Nat.le_of_ble_eq_true rfl) ⟨Nat.le_refl _, Nat.le_refl _⟩ ?_
  refine x_astore_n dX7_pump_8 (by decide) ?_
  show JX _ _ _ _ _ _ _ _ _ _ _ [_, _, _, _, _] _ _
  refine x_aload_n dX7_pump_9 rfl ?_
  refine x_ifnonnull (tgt := 16) dX7_pump_10 (by decide) (fun hb10 => ?_) (fun h => by cases h)
  refine x_iload_n dX7_pump_16 rfl ?_
  refine c_RX7_127d dX7_pump_17 rfl (kX7_isTons rv) (Nat.le_of_ble_eq_true rfl) (Nat.le_of_ble_eq_true rfl) ⟨Nat.le_refl _, Nat.le_refl _⟩ ?_
  refine x_if_ne (tgt := 26) dX7_pump_20 (by decide) ⟨by split <;> omega, by split <;> omega⟩ (fun hb20 => ?_) (fun h => (h (by omega)).elim)
  refine x_aload_n dX7_pump_26 rfl ?_
  refine gf_RX7_10 dX7_pump_27 rfl (by assumption) ?_
  rw [bf]
  refine x_aload_n dX7_pump_30 rfl ?_
  refine gf_RX7_131 dX7_pump_31 rfl (by assumption) ?_
  rw [e6]
  refine c_RX7_136d dX7_pump_34 rfl (kX2_waterAt hF hc ⟨by omega, by omega⟩) (by assumption) (Nat.le_of_ble_eq_true rfl) (Nat.le_of_ble_eq_true rfl) ⟨Nat.le_refl _, Nat.le_refl _⟩ ?_
  rw [wf]
  refine x_astore dX7_pump_37 (by decide) ?_
  show JX _ _ _ _ _ _ _ _ _ _ _ [_, _, _, _, _] _ _
  refine x_aload dX7_pump_39 rfl ?_
  refine x_ifnull (tgt := 55) dX7_pump_41 (by decide) (fun h => by cases h) (fun hb41 => ?_)
  refine x_iload_n dX7_pump_44 rfl ?_
  refine x_i2l dX7_pump_45 ⟨by omega, by omega⟩ ?_
  refine x_aload dX7_pump_46 rfl ?_
  refine gf_RX7_97 dX7_pump_48 rfl (by assumption) ?_
  rw [wr.2.2.1]
  refine x_lc_le (tgt := 62) dX7_pump_51 dX7_pump_52 (by decide) ⟨by omega, by omega⟩ ⟨by omega, by omega⟩ (fun hb52 => ?_) (fun h => (h (by omega)).elim)
  refine x_aload_n dX7_pump_62 rfl ?_
  refine gf_RX7_156 dX7_pump_63 rfl (by assumption) ?_
  rw [e5]
  refine x_iload_n dX7_pump_66 rfl ?_
  refine x_iadd dX7_pump_67 ?_
  refine x_if_lt (tgt := 79) dX7_pump_68 (by decide) ⟨by omega, by omega⟩ (fun hb68 => ?_) (fun h => (h (by omega)).elim)
  refine x_aload_n dX7_pump_79 rfl ?_
  refine x_bipush dX7_pump_80 (by decide) ?_
  refine c_RX7_105d dX7_pump_82 rfl (kX7_refuse hB0) (by assumption) (Nat.le_of_ble_eq_true rfl) (Nat.le_of_ble_eq_true rfl) ⟨Nat.le_refl _, Nat.le_refl _⟩ ?_
  exact x_ireturn dX7_pump_85 rfl rfl ⟨Nat.le_refl _, Nat.le_refl _⟩ ⟨rfl, _, rfl, jCl_ref hst (by omega) (by decide)⟩
theorem kX7_pump_r2 {G : JG} {S : JS} {D : JD} {d : Nat} {X t cz n q : Int} {hs : Int → Int → Int} {r : Int → Int} {k v : Int} (hB : jBL S X) (hz : cz = 0 ∨ cz = 1) (hst : jSt D X t cz n hs r q) (ht : t + 100 ≤ 60000)(h0 : 0 ≤ k) (h1 : k < r 2) (rv : i32 v)(h : v ≠ 0 ∧ -1000 ≤ v ∧ v ≤ 1000) (hu : v ≤ r (wA (r (71 + 8 * k)) + 2)) (hv : ¬ r (70 + 8 * k) + v < 0) (hw : r (68 + 8 * k) - r (69 + 8 * k) - r (70 + 8 * k) < v) : JM G yX7_pump cX7_pump 5 (some .int) (d + 5) (0, 0) S D [.inr (.inr (some X)), .inl k, .inl v] (jrP S (jCl D X (t + 100) cz n hs r q (-100000003, none, 8))) := by
  have hB0 := hB
  obtain ⟨bk, bf, bh, bs, bo, hF, hH, sk, sl, ok, ot, tk, tl⟩ := id hB
  have fk := hF.1
  have hhk := hH.1
  obtain ⟨s5, s4, hR, hI, hi⟩ := id hst
  have hc := hR.ct hI
  have b1 := hI.1
  have n2 := hR.1.2.2.1
  have bk := hF.bk hI h0 h1
  obtain ⟨e0, e1, e2, e3, e4, e5, e6, e7⟩ := hR.ba h0 h1
  obtain ⟨bp, w0, w1, i0, i1, d0, d1⟩ := hI.bw h0 h1
  have wk := hF.wat hI bp
  have wf := hR.watS hI bp
  have bl := bp.lin hI (X + 1)
  obtain ⟨wr, wo, wm⟩ := hR.wat hI (by omega) bp
  have bo := hI.2.2.2.1 k h0 h1
  unfold rBo at bo
  unfold rWo at wo
  have hfl := hI.floats (r (71 + 8 * k))
  show JX _ _ _ _ _ _ _ _ _ _ _ [_, _, _, _, _] _ _
  refine x_aload_n dX7_pump_0 rfl ?_
  refine gf_RX7_10 dX7_pump_1 rfl (by assumption) ?_
  rw [bf]
  refine x_iload_n dX7_pump_4 rfl ?_
  refine c_RX7_123d dX7_pump_5 rfl (kX2_bargeAt_y hF hc (by omega)) (by assumption) (Nat.le_of_ble_eq_true rfl) (Nat.le_of_ble_eq_true rfl) ⟨Nat.le_refl _, Nat.le_refl _⟩ ?_
  refine x_astore_n dX7_pump_8 (by decide) ?_
  show JX _ _ _ _ _ _ _ _ _ _ _ [_, _, _, _, _] _ _
  refine x_aload_n dX7_pump_9 rfl ?_
  refine x_ifnonnull (tgt := 16) dX7_pump_10 (by decide) (fun hb10 => ?_) (fun h => by cases h)
  refine x_iload_n dX7_pump_16 rfl ?_
  refine c_RX7_127d dX7_pump_17 rfl (kX7_isTons rv) (Nat.le_of_ble_eq_true rfl) (Nat.le_of_ble_eq_true rfl) ⟨Nat.le_refl _, Nat.le_refl _⟩ ?_
  refine x_if_ne (tgt := 26) dX7_pump_20 (by decide) ⟨by split <;> omega, by split <;> omega⟩ (fun hb20 => ?_) (fun h => (h (by omega)).elim)
  refine x_aload_n dX7_pump_26 rfl ?_
  refine gf_RX7_10 dX7_pump_27 rfl (by assumption) ?_
  rw [bf]
  refine x_aload_n dX7_pump_30 rfl ?_
  refine gf_RX7_131 dX7_pump_31 rfl (by assumption) ?_
  rw [e6]
  refine c_RX7_136d dX7_pump_34 rfl (kX2_waterAt hF hc ⟨by omega, by omega⟩) (by assumption) (Nat.le_of_ble_eq_true rfl) (Nat.le_of_ble_eq_true rfl) ⟨Nat.le_refl _, Nat.le_refl _⟩ ?_
  rw [wf]
  refine x_astore dX7_pump_37 (by decide) ?_
  show JX _ _ _ _ _ _ _ _ _ _ _ [_, _, _, _, _] _ _
  refine x_aload dX7_pump_39 rfl ?_
  refine x_ifnull (tgt := 55) dX7_pump_41 (by decide) (fun h => by cases h) (fun hb41 => ?_)
  refine x_iload_n dX7_pump_44 rfl ?_
  refine x_i2l dX7_pump_45 ⟨by omega, by omega⟩ ?_
  refine x_aload dX7_pump_46 rfl ?_
  refine gf_RX7_97 dX7_pump_48 rfl (by assumption) ?_
  rw [wr.2.2.1]
  refine x_lc_le (tgt := 62) dX7_pump_51 dX7_pump_52 (by decide) ⟨by omega, by omega⟩ ⟨by omega, by omega⟩ (fun hb52 => ?_) (fun h => (h (by omega)).elim)
  refine x_aload_n dX7_pump_62 rfl ?_
  refine gf_RX7_156 dX7_pump_63 rfl (by assumption) ?_
  rw [e5]
  refine x_iload_n dX7_pump_66 rfl ?_
  refine x_iadd dX7_pump_67 ?_
  refine x_if_lt (tgt := 79) dX7_pump_68 (by decide) ⟨by omega, by omega⟩ (fun h => absurd h (by omega)) (fun hb68 => ?_)
  refine x_iload_n dX7_pump_71 rfl ?_
  refine x_aload_n dX7_pump_72 rfl ?_
  refine c_RX7_146d dX7_pump_73 rfl (kR_freeHold hF hR hI h0 h1) (by assumption) (Nat.le_of_ble_eq_true rfl) (Nat.le_of_ble_eq_true rfl) ⟨Nat.le_refl _, Nat.le_refl _⟩ ?_
  refine x_ic_le (tgt := 86) dX7_pump_76 (by decide) ⟨by omega, by omega⟩ ⟨by omega, by omega⟩ (fun h => absurd h (by omega)) (fun hb76 => ?_)
  refine x_aload_n dX7_pump_79 rfl ?_
  refine x_bipush dX7_pump_80 (by decide) ?_
  refine c_RX7_105d dX7_pump_82 rfl (kX7_refuse hB0) (by assumption) (Nat.le_of_ble_eq_true rfl) (Nat.le_of_ble_eq_true rfl) ⟨Nat.le_refl _, Nat.le_refl _⟩ ?_
  exact x_ireturn dX7_pump_85 rfl rfl ⟨Nat.le_refl _, Nat.le_refl _⟩ ⟨rfl, _, rfl, jCl_ref hst (by omega) (by decide)⟩
theorem kX7_pump_y {G : JG} {S : JS} {D : JD} {d : Nat} {X t cz n q : Int} {hs : Int → Int → Int} {r : Int → Int} {k v : Int} (hB : jBL S X) (hz : cz = 0 ∨ cz = 1) (hst : jSt D X t cz n hs r q) (ht : t + 100 ≤ 60000)(h0 : 0 ≤ k) (h1 : k < r 2) (rv : i32 v)(h : v ≠ 0 ∧ -1000 ≤ v ∧ v ≤ 1000) (hv : v ≤ r (wA (r (71 + 8 * k)) + 2) ∧ 0 ≤ r (70 + 8 * k) + v ∧ v ≤ r (68 + 8 * k) - r (69 + 8 * k) - r (70 + 8 * k)) : JM G yX7_pump cX7_pump 5 (some .int) (d + 5) (0, 0) S D [.inr (.inr (some X)), .inl k, .inl v] (jrP S (jCl D X (t + 100) cz n hs r q (sDr (rPump k v r) k, some (rPump k v r), 0))) := by
  have hB0 := hB
  obtain ⟨bk, bf, bh, bs, bo, hF, hH, sk, sl, ok, ot, tk, tl⟩ := id hB
  have fk := hF.1
  have hhk := hH.1
  obtain ⟨s5, s4, hR, hI, hi⟩ := id hst
  have hc := hR.ct hI
  have b1 := hI.1
  have n2 := hR.1.2.2.1
  have bk := hF.bk hI h0 h1
  obtain ⟨e0, e1, e2, e3, e4, e5, e6, e7⟩ := hR.ba h0 h1
  obtain ⟨bp, w0, w1, i0, i1, d0, d1⟩ := hI.bw h0 h1
  have wk := hF.wat hI bp
  have wf := hR.watS hI bp
  have bl := bp.lin hI (X + 1)
  obtain ⟨wr, wo, wm⟩ := hR.wat hI (by omega) bp
  have bo := hI.2.2.2.1 k h0 h1
  unfold rBo at bo
  unfold rWo at wo
  have hfl := hI.floats (r (71 + 8 * k))
  show JX _ _ _ _ _ _ _ _ _ _ _ [_, _, _, _, _] _ _
  refine x_aload_n dX7_pump_0 rfl ?_
  refine gf_RX7_10 dX7_pump_1 rfl (by assumption) ?_
  rw [bf]
  refine x_iload_n dX7_pump_4 rfl ?_
  refine c_RX7_123d dX7_pump_5 rfl (kX2_bargeAt_y hF hc (by omega)) (by assumption) (Nat.le_of_ble_eq_true rfl) (Nat.le_of_ble_eq_true rfl) ⟨Nat.le_refl _, Nat.le_refl _⟩ ?_
  refine x_astore_n dX7_pump_8 (by decide) ?_
  show JX _ _ _ _ _ _ _ _ _ _ _ [_, _, _, _, _] _ _
  refine x_aload_n dX7_pump_9 rfl ?_
  refine x_ifnonnull (tgt := 16) dX7_pump_10 (by decide) (fun hb10 => ?_) (fun h => by cases h)
  refine x_iload_n dX7_pump_16 rfl ?_
  refine c_RX7_127d dX7_pump_17 rfl (kX7_isTons rv) (Nat.le_of_ble_eq_true rfl) (Nat.le_of_ble_eq_true rfl) ⟨Nat.le_refl _, Nat.le_refl _⟩ ?_
  refine x_if_ne (tgt := 26) dX7_pump_20 (by decide) ⟨by split <;> omega, by split <;> omega⟩ (fun hb20 => ?_) (fun h => (h (by omega)).elim)
  refine x_aload_n dX7_pump_26 rfl ?_
  refine gf_RX7_10 dX7_pump_27 rfl (by assumption) ?_
  rw [bf]
  refine x_aload_n dX7_pump_30 rfl ?_
  refine gf_RX7_131 dX7_pump_31 rfl (by assumption) ?_
  rw [e6]
  refine c_RX7_136d dX7_pump_34 rfl (kX2_waterAt hF hc ⟨by omega, by omega⟩) (by assumption) (Nat.le_of_ble_eq_true rfl) (Nat.le_of_ble_eq_true rfl) ⟨Nat.le_refl _, Nat.le_refl _⟩ ?_
  rw [wf]
  refine x_astore dX7_pump_37 (by decide) ?_
  show JX _ _ _ _ _ _ _ _ _ _ _ [_, _, _, _, _] _ _
  refine x_aload dX7_pump_39 rfl ?_
  refine x_ifnull (tgt := 55) dX7_pump_41 (by decide) (fun h => by cases h) (fun hb41 => ?_)
  refine x_iload_n dX7_pump_44 rfl ?_
  refine x_i2l dX7_pump_45 ⟨by omega, by omega⟩ ?_
  refine x_aload dX7_pump_46 rfl ?_
  refine gf_RX7_97 dX7_pump_48 rfl (by assumption) ?_
  rw [wr.2.2.1]
  refine x_lc_le (tgt := 62) dX7_pump_51 dX7_pump_52 (by decide) ⟨by omega, by omega⟩ ⟨by omega, by omega⟩ (fun hb52 => ?_) (fun h => (h (by omega)).elim)
  refine x_aload_n dX7_pump_62 rfl ?_
  refine gf_RX7_156 dX7_pump_63 rfl (by assumption) ?_
  rw [e5]
  refine x_iload_n dX7_pump_66 rfl ?_
  refine x_iadd dX7_pump_67 ?_
  refine x_if_lt (tgt := 79) dX7_pump_68 (by decide) ⟨by omega, by omega⟩ (fun h => absurd h (by omega)) (fun hb68 => ?_)
  refine x_iload_n dX7_pump_71 rfl ?_
  refine x_aload_n dX7_pump_72 rfl ?_
  refine c_RX7_146d dX7_pump_73 rfl (kR_freeHold hF hR hI h0 h1) (by assumption) (Nat.le_of_ble_eq_true rfl) (Nat.le_of_ble_eq_true rfl) ⟨Nat.le_refl _, Nat.le_refl _⟩ ?_
  refine x_ic_le (tgt := 86) dX7_pump_76 (by decide) ⟨by omega, by omega⟩ ⟨by omega, by omega⟩ (fun hb76 => ?_) (fun h => (h (by omega)).elim)
  refine x_aload_n dX7_pump_86 rfl ?_
  refine c_RX7_51p dX7_pump_87 rfl (kX7_record hB hz hst) (by assumption) (Nat.le_of_ble_eq_true rfl) (Nat.le_of_ble_eq_true rfl) ⟨Nat.le_refl _, Nat.le_refl _⟩ (fun D1 h1 => ?_)
  obtain ⟨st1, x1⟩ := h1
  obtain ⟨t5, t4, hR1, hI1, hi1⟩ := id st1
  have hc1 := hR1.ct hI1
  obtain ⟨v0, v1, v2, v3, v4, v5, v6, v7⟩ := hR1.ba h0 h1
  have wr1 := (hR1.wat hI1 (by omega) bp).1
  have ns : sWa (X + 1) (r (71 + 8 * k)) ≠ X + 1 + 29 + k := by omega
  refine x_aload_n dX7_pump_90 rfl ?_
  refine x_dup dX7_pump_91 (fun _ h => by cases h) ?_
  refine gf_RX7_156 dX7_pump_92 rfl (by assumption) ?_
  rw [v5]
  refine x_iload_n dX7_pump_95 rfl ?_
  refine x_iadd dX7_pump_96 ?_
  refine pf_RX7_156 dX7_pump_97 rfl (by assumption) ?_
  refine x_aload dX7_pump_100 rfl ?_
  refine x_dup dX7_pump_102 (fun _ h => by cases h) ?_
  refine gf_RX7_150 dX7_pump_103 rfl (by assumption) ?_
  rw [jup_ne ns, wr1.2.2.2.1]
  refine x_iload_n dX7_pump_106 rfl ?_
  refine x_i2l dX7_pump_107 ⟨by omega, by omega⟩ ?_
  refine x_ladd dX7_pump_108 ?_
  refine pf_RX7_150 dX7_pump_109 rfl (by assumption) ?_
  refine x_aload dX7_pump_112 rfl ?_
  refine x_dup dX7_pump_114 (fun _ h => by cases h) ?_
  refine gf_RX7_97 dX7_pump_115 rfl (by assumption) ?_
  rw [jup_nk (show (2 : Int) ≠ 3 by decide), jup_ne ns, wr1.2.2.1]
  refine x_iload_n dX7_pump_118 rfl ?_
  refine x_i2l dX7_pump_119 ⟨by omega, by omega⟩ ?_
  refine x_lsub dX7_pump_120 ?_
  refine pf_RX7_97 dX7_pump_121 rfl (by assumption) ?_
  have hRa := hR1.put hI1 h0 h1 (f := 70 + 8 * k) (z := 5) (v := v) (by omega)
  have hIa := hI1.put (t2 := t + 1) (f := 70 + 8 * k) (v := v) (by omega) h0 h1 (by omega) (by omega) (by omega) (by have := hI1.2.2.2.2.1; split <;> omega)
  have g0 : rup r (70 + 8 * k) (r (70 + 8 * k) + v) 0 = r 0 := rup_ne (by omega)
  have g1 : rup r (70 + 8 * k) (r (70 + 8 * k) + v) 1 = r 1 := rup_ne (by omega)
  have bp2 : rPl (rup r (70 + 8 * k) (r (70 + 8 * k) + v)) (r (71 + 8 * k)) := by unfold rPl; rw [g0, g1]; omega
  have wb : wA (r (71 + 8 * k)) + 2 < 60 := by unfold wA; split <;> omega
  have wb2 : 6 ≤ wA (r (71 + 8 * k)) := by unfold wA; split <;> omega
  have gw : rup r (70 + 8 * k) (r (70 + 8 * k) + v) (wA (r (71 + 8 * k)) + 2) = r (wA (r (71 + 8 * k)) + 2) := rup_ne (by omega)
  have hR2 := hRa.wat1 hIa (x := r (wA (r (71 + 8 * k)) + 2) - v) bp2
  have hI2 := hIa.wat1 (t2 := t + 100) (x := r (wA (r (71 + 8 * k)) + 2) - v) bp2 (by omega) (by omega) (by have := hIa.2.2.2.2.1; rw [g0] at this; rw [gw, g0]; omega)
  rw [show rup (rup r (70 + 8 * k) (r (70 + 8 * k) + v)) (wA (r (71 + 8 * k)) + 2) (r (wA (r (71 + 8 * k)) + 2) - v) = rPump k v r from rup_comm (by omega)] at hR2 hI2
  have r22 : rPump k v r 2 = r 2 := by unfold rPump; rw [rup_ne (by omega), rup_ne (by omega)]
  refine x_aload_n dX7_pump_124 rfl ?_
  refine gf_RX7_10 dX7_pump_125 rfl (by assumption) ?_
  rw [bf]
  refine c_RX7_58p dX7_pump_128 rfl (kX2_settle hF hR2 hI2 (by omega)) (by assumption) (Nat.le_of_ble_eq_true rfl) (Nat.le_of_ble_eq_true rfl) ⟨Nat.le_refl _, Nat.le_refl _⟩ (fun D3 h3 => ?_)
  obtain ⟨hR4, hx4⟩ := h3
  have hI4 := hI2.all
  have k4 := hI2.keep (j := 2) (by omega)
  refine x_aload_n dX7_pump_131 rfl ?_
  refine c_RX7_153d dX7_pump_132 rfl (kR_draught hF hR4 hI4 h0 (by omega)) (by assumption) (Nat.le_of_ble_eq_true rfl) (Nat.le_of_ble_eq_true rfl) ⟨Nat.le_refl _, Nat.le_refl _⟩ ?_
  exact x_ireturn dX7_pump_135 rfl rfl ⟨Nat.le_refl _, Nat.le_refl _⟩ ⟨rfl, _, by rw [sDr_all hI2 h0], jCl_some x1 st1 (fun x y hx => by rw [jup_ne (by omega), jup_ne (by omega), jup_ne (by omega)]) hx4 hR4 hI2 (by omega)⟩
theorem kX7_load {G : JG} {S : JS} {D : JD} {d : Nat} {X t cz n q : Int} {hs : Int → Int → Int} {r : Int → Int} {k v : Int} (hB : jBL S X) (hz : cz = 0 ∨ cz = 1) (hst : jSt D X t cz n hs r q) (ht : t + 100 ≤ 60000) (rk : i32 k) (rv : i32 v) : JM G yX7_load cX7_load 5 (some .int) (d + 5) (0, 0) S D [.inr (.inr (some X)), .inl k, .inl v] (jrP S (jCl D X (t + 100) cz n hs r q (zLoad k v r))) := by
  unfold zLoad
  by_cases h : 0 ≤ k ∧ k < r 2
  · rw [if_pos h]
    by_cases hv : v ≠ 0 ∧ -1000 ≤ v ∧ v ≤ 1000
    · rw [if_pos hv]
      by_cases hc4 : 100 ≤ r (71 + 8 * k)
      · rw [if_pos hc4]; exact kX7_load_n hB hz hst ht h.1 h.2 rv hv hc4
      · rw [if_neg hc4]
        by_cases hl : 0 ≤ r (69 + 8 * k) + v ∧ v ≤ r (68 + 8 * k) - r (69 + 8 * k) - r (70 + 8 * k)
        · rw [if_pos hl]; exact kX7_load_y hB hz hst ht h.1 h.2 rv hv hc4 hl
        · rw [if_neg hl]
          by_cases h4 : r (69 + 8 * k) + v < 0
          · exact kX7_load_r1 hB hz hst ht h.1 h.2 rv hv hc4 h4
          · exact kX7_load_r2 hB hz hst ht h.1 h.2 rv hv hc4 h4 (by omega)
    · rw [if_neg hv]; exact kX7_load_b hB hz hst ht h.1 h.2 rv hv
  · rw [if_neg h]; exact kX7_load_u hB hz hst ht rk h
theorem kX7_pump {G : JG} {S : JS} {D : JD} {d : Nat} {X t cz n q : Int} {hs : Int → Int → Int} {r : Int → Int} {k v : Int} (hB : jBL S X) (hz : cz = 0 ∨ cz = 1) (hst : jSt D X t cz n hs r q) (ht : t + 100 ≤ 60000) (rk : i32 k) (rv : i32 v) : JM G yX7_pump cX7_pump 5 (some .int) (d + 5) (0, 0) S D [.inr (.inr (some X)), .inl k, .inl v] (jrP S (jCl D X (t + 100) cz n hs r q (zPump k v r))) := by
  unfold zPump
  by_cases h : 0 ≤ k ∧ k < r 2
  · rw [if_pos h]
    by_cases hv : v ≠ 0 ∧ -1000 ≤ v ∧ v ≤ 1000
    · rw [if_pos hv]
      by_cases hl : v ≤ r (wA (r (71 + 8 * k)) + 2) ∧ 0 ≤ r (70 + 8 * k) + v ∧ v ≤ r (68 + 8 * k) - r (69 + 8 * k) - r (70 + 8 * k)
      · rw [if_pos hl]; exact kX7_pump_y hB hz hst ht h.1 h.2 rv hv hl
      · rw [if_neg hl]
        by_cases h3 : r (wA (r (71 + 8 * k)) + 2) < v
        · exact kX7_pump_r0 hB hz hst ht h.1 h.2 rv hv h3
        · by_cases h4 : r (70 + 8 * k) + v < 0
          · exact kX7_pump_r1 hB hz hst ht h.1 h.2 rv hv (by omega) h4
          · exact kX7_pump_r2 hB hz hst ht h.1 h.2 rv hv (by omega) h4 (by omega)
    · rw [if_neg hv]; exact kX7_pump_b hB hz hst ht h.1 h.2 rv hv
  · rw [if_neg h]; exact kX7_pump_u hB hz hst ht rk h
