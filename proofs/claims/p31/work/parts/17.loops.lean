/-! LOOPS over barges and chambers that tell a number -/
theorem jsum_nat (f : Int → Int) (i : Nat) : jsum f (i + 1) = jsum f i + f (i : Int) := rfl
theorem sumOfBarges_loop {G : JG} {S : JS} {D : JD} {d : Nat} {b t w : Int} {r f : Int → Int} (hF : jFl S b) (hR : jFR D b r) (hI : rIn t r) (ht : t ≤ 60000) (hp : ∀ k : Int, 0 ≤ k → k < r 2 → JM G yX2_propertyOf cX2_propertyOf 3 (some .int) (d + 4) (0, 0) S D [.inr (.inr (some b)), .inr (.inr (some (b + 29 + k))), .inl w] (jr (.inl (f k)) S D)) (hf : ∀ k : Int, 0 ≤ k → k < r 2 → i32 (f k)) : ∀ (n i : Nat) (x : Int), (i : Int) + n = r 2 → x = jsum f i → ∀ l5 : Option JV,
    JX G yX2_sumOfBarges cX2_sumOfBarges 6 (some .long) (d + 5) (0, 0) (0, 0) S D 5 [some (.inr (.inr (some b))), some (.inl w), some (.inr (.inl x)), none, some (.inl i), l5] [] (jr (.inr (.inl (jsum f (r 2).toNat))) S D) := by
  intro n
  induction n with
  | zero =>
    intro i x hn hx l5
    have fk := hF.1
    have hc := hR.ct hI
    have b1 := hI.1
    have e5 := hR.1.2.2.1
    have c6 := hc.2.2.2.2.2
    refine x_iload dX2_sumOfBarges_5 rfl ?_
    refine x_aload_n dX2_sumOfBarges_7 rfl ?_
    refine gf_RX2_39 dX2_sumOfBarges_8 rfl (by assumption) ?_
    refine x_ic_ge (tgt := 44) dX2_sumOfBarges_11 (by decide) ⟨by omega, by omega⟩ ⟨by omega, by omega⟩ (fun hb11 => ?_) (fun h => (h (by omega)).elim)
    refine x_lload_n dX2_sumOfBarges_44 rfl ?_
    exact x_lreturn dX2_sumOfBarges_45 rfl ⟨Nat.le_refl _, Nat.le_refl _⟩ ⟨by rw [hx, show (r 2).toNat = i by omega], rfl, rfl⟩
  | succ n ih =>
    intro i x hn hx l5
    have fk := hF.1
    have hc := hR.ct hI
    have b1 := hI.1
    have e5 := hR.1.2.2.1
    have c6 := hc.2.2.2.2.2
    have hfi := hf i (by omega) (by omega)
    refine x_iload dX2_sumOfBarges_5 rfl ?_
    refine x_aload_n dX2_sumOfBarges_7 rfl ?_
    refine gf_RX2_39 dX2_sumOfBarges_8 rfl (by assumption) ?_
    refine x_ic_ge (tgt := 44) dX2_sumOfBarges_11 (by decide) ⟨by omega, by omega⟩ ⟨by omega, by omega⟩ (fun h => absurd h (by omega)) (fun hb11 => ?_)
    refine x_aload_n dX2_sumOfBarges_14 rfl ?_
    refine x_iload dX2_sumOfBarges_15 rfl ?_
    refine c_RX2_77d dX2_sumOfBarges_17 rfl (kX2_bargeAt_y hF hc ⟨by omega, by omega⟩) (by assumption) (Nat.le_of_ble_eq_true rfl) (Nat.le_of_ble_eq_true rfl) ⟨Nat.le_refl _, Nat.le_refl _⟩ ?_
    refine x_astore dX2_sumOfBarges_20 (by decide) ?_
    show JX _ _ _ _ _ _ _ _ _ _ _ [_, _, _, _, _, _] _ _
    refine x_aload dX2_sumOfBarges_22 rfl ?_
    refine x_ifnull (tgt := 38) dX2_sumOfBarges_24 (by decide) (fun h => by cases h) (fun hb24 => ?_)
    refine x_lload_n dX2_sumOfBarges_27 rfl ?_
    refine x_aload_n dX2_sumOfBarges_28 rfl ?_
    refine x_aload dX2_sumOfBarges_29 rfl ?_
    refine x_iload_n dX2_sumOfBarges_31 rfl ?_
    refine c_RX2_147d dX2_sumOfBarges_32 rfl (hp i (by omega) (by omega)) (by assumption) (Nat.le_of_ble_eq_true rfl) (Nat.le_of_ble_eq_true rfl) ⟨Nat.le_refl _, Nat.le_refl _⟩ ?_
    refine x_i2l dX2_sumOfBarges_35 hfi ?_
    refine x_ladd dX2_sumOfBarges_36 ?_
    refine x_lstore_n dX2_sumOfBarges_37 (by decide) ?_
    show JX _ _ _ _ _ _ _ _ _ _ _ [_, _, _, _, _, _] _ _
    refine x_iinc dX2_sumOfBarges_38 rfl (by decide) ?_
    show JX _ _ _ _ _ _ _ _ _ _ _ [_, _, _, _, _, _] _ _
    refine x_goto (tgt := 5) dX2_sumOfBarges_41 (by decide) ?_
    exact ih (i + 1) _ (by omega) (by rw [hx]; rfl) _
theorem kX2_sumOfBarges {G : JG} {S : JS} {D : JD} {d : Nat} {b t w : Int} {r f : Int → Int} (hF : jFl S b) (hR : jFR D b r) (hI : rIn t r) (ht : t ≤ 60000) (hp : ∀ k : Int, 0 ≤ k → k < r 2 → JM G yX2_propertyOf cX2_propertyOf 3 (some .int) (d + 4) (0, 0) S D [.inr (.inr (some b)), .inr (.inr (some (b + 29 + k))), .inl w] (jr (.inl (f k)) S D)) (hf : ∀ k : Int, 0 ≤ k → k < r 2 → i32 (f k)) : JM G yX2_sumOfBarges cX2_sumOfBarges 6 (some .long) (d + 5) (0, 0) S D [.inr (.inr (some b)), .inl w] (jr (.inr (.inl (jsum f (r 2).toNat))) S D) := by
  have b1 := hI.1
  show JX _ _ _ _ _ _ _ _ _ _ _ [_, _, _, _, _, _] _ _
  refine x_lconst (e := 0) dX2_sumOfBarges_0 (by decide) ?_
  refine x_lstore_n dX2_sumOfBarges_1 (by decide) ?_
  show JX _ _ _ _ _ _ _ _ _ _ _ [_, _, _, _, _, _] _ _
  refine x_iconst dX2_sumOfBarges_2 ?_
  refine x_istore dX2_sumOfBarges_3 (by decide) ?_
  show JX _ _ _ _ _ _ _ _ _ _ _ [_, _, _, _, _, _] _ _
  exact sumOfBarges_loop hF hR hI ht hp hf (r 2).toNat 0 0 (by omega) rfl _
def sWx (r : Int → Int) (i : Int) : Int := r (8 + 3 * i) + (if i < r 1 then r (23 + 11 * i) else 0)
theorem allWater_loop {G : JG} {S : JS} {D : JD} {d : Nat} {b t : Int} {r : Int → Int} (hF : jFl S b) (hR : jFR D b r) (hI : rIn t r) (ht : t ≤ 60000) : ∀ (n i : Nat) (x : Int), (i : Int) + n = r 0 → x = jsum (sWx r) i → ∀ l4 l5 : Option JV,
    JX G yX2_allWater cX2_allWater 6 (some .long) (d + 1) (0, 0) (0, 0) S D 4 [some (.inr (.inr (some b))), some (.inr (.inl x)), none, some (.inl i), l4, l5] [] (jr (.inr (.inl (jsum (sWx r) (r 0).toNat))) S D) := by
  intro n
  induction n with
  | zero =>
    intro i x hn hx l4 l5
    have fk := hF.1
    have hc := hR.ct hI
    have b1 := hI.1
    have e3 := hR.1.1
    have e4 := hR.1.2.1
    have c4 := hc.2.2.2.1
    refine x_iload_n dX2_allWater_4 rfl ?_
    refine x_aload_n dX2_allWater_5 rfl ?_
    refine gf_RX2_32 dX2_allWater_6 rfl (by assumption) ?_
    refine x_ic_ge (tgt := 69) dX2_allWater_9 (by decide) ⟨by omega, by omega⟩ ⟨by omega, by omega⟩ (fun hb9 => ?_) (fun h => (h (by omega)).elim)
    refine x_lload_n dX2_allWater_69 rfl ?_
    exact x_lreturn dX2_allWater_70 rfl ⟨Nat.le_refl _, Nat.le_refl _⟩ ⟨by rw [hx, show (r 0).toNat = i by omega], rfl, rfl⟩
  | succ n ih =>
    intro i x hn hx l4 l5
    have fk := hF.1
    have hc := hR.ct hI
    have b1 := hI.1
    have e3 := hR.1.1
    have e4 := hR.1.2.1
    have c4 := hc.2.2.2.1
    have rk := (hF.2.2.2.2.2.2.2.2.2.2.1 i (by omega) (by omega)).2
    have rw2 := (hR.wr (i := i) (by omega) (by omega) (by omega)).2.2.1
    by_cases q : (i : Int) < r 1
    · have cc := (hF.2.2.2.2.2.2.2.2.2.2.2.1 i (by omega) (by omega)).2
      have cck := cc.1
      have cw := cc.2.1
      have cwk := cc.2.2.2.2.2.1
      have cw2 := (hR.wc (c := i) (by omega) q).2.2.1
      refine x_iload_n dX2_allWater_4 rfl ?_
      refine x_aload_n dX2_allWater_5 rfl ?_
      refine gf_RX2_32 dX2_allWater_6 rfl (by assumption) ?_
      refine x_ic_ge (tgt := 69) dX2_allWater_9 (by decide) ⟨by omega, by omega⟩ ⟨by omega, by omega⟩ (fun h => absurd h (by omega)) (fun hb9 => ?_)
      refine x_aload_n dX2_allWater_12 rfl ?_
      refine x_iload_n dX2_allWater_13 rfl ?_
      refine c_RX2_64d dX2_allWater_14 rfl (kX2_reachAt_y hF hc ⟨by omega, by omega⟩) (by assumption) (Nat.le_of_ble_eq_true rfl) (Nat.le_of_ble_eq_true rfl) ⟨Nat.le_refl _, Nat.le_refl _⟩ ?_
      refine x_astore dX2_allWater_17 (by decide) ?_
      show JX _ _ _ _ _ _ _ _ _ _ _ [_, _, _, _, _, _] _ _
      refine x_aload_n dX2_allWater_19 rfl ?_
      refine x_iload_n dX2_allWater_20 rfl ?_
      refine c_RX2_52d dX2_allWater_21 rfl (kX2_chamberAt_y hF hc ⟨by omega, by omega⟩) (by assumption) (Nat.le_of_ble_eq_true rfl) (Nat.le_of_ble_eq_true rfl) ⟨Nat.le_refl _, Nat.le_refl _⟩ ?_
      refine x_astore dX2_allWater_24 (by decide) ?_
      show JX _ _ _ _ _ _ _ _ _ _ _ [_, _, _, _, _, _] _ _
      refine x_lload_n dX2_allWater_26 rfl ?_
      refine x_aload dX2_allWater_27 rfl ?_
      refine x_ifnonnull (tgt := 36) dX2_allWater_29 (by decide) (fun hb29 => ?_) (fun h => by cases h)
      refine x_aload dX2_allWater_36 rfl ?_
      refine gf_RX2_151 dX2_allWater_38 rfl (by assumption) ?_
      refine x_ladd dX2_allWater_41 ?_
      refine x_lstore_n dX2_allWater_42 (by decide) ?_
      show JX _ _ _ _ _ _ _ _ _ _ _ [_, _, _, _, _, _] _ _
      refine x_lload_n dX2_allWater_43 rfl ?_
      refine x_aload dX2_allWater_44 rfl ?_
      refine x_ifnonnull (tgt := 53) dX2_allWater_46 (by decide) (fun hb46 => ?_) (fun h => by cases h)
      refine x_aload dX2_allWater_53 rfl ?_
      refine gf_RX2_68 dX2_allWater_55 rfl (by assumption) ?_
      rw [cw]
      refine gf_RX2_151 dX2_allWater_58 rfl (by assumption) ?_
      refine x_ladd dX2_allWater_61 ?_
      refine x_lstore_n dX2_allWater_62 (by decide) ?_
      show JX _ _ _ _ _ _ _ _ _ _ _ [_, _, _, _, _, _] _ _
      refine x_iinc dX2_allWater_63 rfl (by decide) ?_
      show JX _ _ _ _ _ _ _ _ _ _ _ [_, _, _, _, _, _] _ _
      refine x_goto (tgt := 4) dX2_allWater_66 (by decide) ?_
      exact ih (i + 1) _ (by omega) (by rw [hx, jsum_nat, rw2, cw2]; unfold sWx; rw [if_pos q]; omega) _ _
    · skip
      refine x_iload_n dX2_allWater_4 rfl ?_
      refine x_aload_n dX2_allWater_5 rfl ?_
      refine gf_RX2_32 dX2_allWater_6 rfl (by assumption) ?_
      refine x_ic_ge (tgt := 69) dX2_allWater_9 (by decide) ⟨by omega, by omega⟩ ⟨by omega, by omega⟩ (fun h => absurd h (by omega)) (fun hb9 => ?_)
      refine x_aload_n dX2_allWater_12 rfl ?_
      refine x_iload_n dX2_allWater_13 rfl ?_
      refine c_RX2_64d dX2_allWater_14 rfl (kX2_reachAt_y hF hc ⟨by omega, by omega⟩) (by assumption) (Nat.le_of_ble_eq_true rfl) (Nat.le_of_ble_eq_true rfl) ⟨Nat.le_refl _, Nat.le_refl _⟩ ?_
      refine x_astore dX2_allWater_17 (by decide) ?_
      show JX _ _ _ _ _ _ _ _ _ _ _ [_, _, _, _, _, _] _ _
      refine x_aload_n dX2_allWater_19 rfl ?_
      refine x_iload_n dX2_allWater_20 rfl ?_
      refine c_RX2_52d dX2_allWater_21 rfl (kX2_chamberAt_n hF hc ⟨by omega, by omega⟩ (by omega)) (by assumption) (Nat.le_of_ble_eq_true rfl) (Nat.le_of_ble_eq_true rfl) ⟨Nat.le_refl _, Nat.le_refl _⟩ ?_
      refine x_astore dX2_allWater_24 (by decide) ?_
      show JX _ _ _ _ _ _ _ _ _ _ _ [_, _, _, _, _, _] _ _
      refine x_lload_n dX2_allWater_26 rfl ?_
      refine x_aload dX2_allWater_27 rfl ?_
      refine x_ifnonnull (tgt := 36) dX2_allWater_29 (by decide) (fun hb29 => ?_) (fun h => by cases h)
      refine x_aload dX2_allWater_36 rfl ?_
      refine gf_RX2_151 dX2_allWater_38 rfl (by assumption) ?_
      refine x_ladd dX2_allWater_41 ?_
      refine x_lstore_n dX2_allWater_42 (by decide) ?_
      show JX _ _ _ _ _ _ _ _ _ _ _ [_, _, _, _, _, _] _ _
      refine x_lload_n dX2_allWater_43 rfl ?_
      refine x_aload dX2_allWater_44 rfl ?_
      refine x_ifnonnull (tgt := 53) dX2_allWater_46 (by decide) (fun h => absurd rfl h) (fun hb46 => ?_)
      refine x_lconst (e := 0) dX2_allWater_49 (by decide) ?_
      refine x_goto (tgt := 61) dX2_allWater_50 (by decide) ?_
      refine x_ladd dX2_allWater_61 ?_
      refine x_lstore_n dX2_allWater_62 (by decide) ?_
      show JX _ _ _ _ _ _ _ _ _ _ _ [_, _, _, _, _, _] _ _
      refine x_iinc dX2_allWater_63 rfl (by decide) ?_
      show JX _ _ _ _ _ _ _ _ _ _ _ [_, _, _, _, _, _] _ _
      refine x_goto (tgt := 4) dX2_allWater_66 (by decide) ?_
      exact ih (i + 1) _ (by omega) (by rw [hx, jsum_nat, rw2]; unfold sWx; rw [if_neg q]; omega) _ _
theorem kX2_allWater {G : JG} {S : JS} {D : JD} {d : Nat} {b t : Int} {r : Int → Int} (hF : jFl S b) (hR : jFR D b r) (hI : rIn t r) (ht : t ≤ 60000) : JM G yX2_allWater cX2_allWater 6 (some .long) (d + 1) (0, 0) S D [.inr (.inr (some b))] (jr (.inr (.inl (jsum (sWx r) (r 0).toNat))) S D) := by
  have b1 := hI.1
  show JX _ _ _ _ _ _ _ _ _ _ _ [_, _, _, _, _, _] _ _
  refine x_lconst (e := 0) dX2_allWater_0 (by decide) ?_
  refine x_lstore_n dX2_allWater_1 (by decide) ?_
  show JX _ _ _ _ _ _ _ _ _ _ _ [_, _, _, _, _, _] _ _
  refine x_iconst dX2_allWater_2 ?_
  refine x_istore_n dX2_allWater_3 (by decide) ?_
  show JX _ _ _ _ _ _ _ _ _ _ _ [_, _, _, _, _, _] _ _
  exact allWater_loop hF hR hI ht (r 0).toNat 0 0 (by omega) rfl _ _
theorem openGates_loop {G : JG} {S : JS} {D : JD} {d : Nat} {b t : Int} {r : Int → Int} (hF : jFl S b) (hR : jFR D b r) (hI : rIn t r) (ht : t ≤ 60000) : ∀ (n i : Nat) (x : Int), (i : Int) + n = r 1 → x = jsum (fun c => if 0 ≤ r (29 + 11 * c) then 1 else 0) i → 0 ≤ x ∧ x ≤ i → ∀ l3 : Option JV,
    JX G yX2_openGates cX2_openGates 4 (some .int) (d + 1) (0, 0) (0, 0) S D 4 [some (.inr (.inr (some b))), some (.inl x), some (.inl i), l3] [] (jr (.inl (jsum (fun c => if 0 ≤ r (29 + 11 * c) then 1 else 0) (r 1).toNat)) S D) := by
  intro n
  induction n with
  | zero =>
    intro i x hn hx hx2 l3
    have fk := hF.1
    have hc := hR.ct hI
    have b1 := hI.1
    have e4 := hR.1.2.1
    have c4 := hc.2.2.2.1
    refine x_iload_n dX2_openGates_4 rfl ?_
    refine x_aload_n dX2_openGates_5 rfl ?_
    refine gf_RX2_36 dX2_openGates_6 rfl (by assumption) ?_
    refine x_ic_ge (tgt := 39) dX2_openGates_9 (by decide) ⟨by omega, by omega⟩ ⟨by omega, by omega⟩ (fun hb9 => ?_) (fun h => (h (by omega)).elim)
    refine x_iload_n dX2_openGates_39 rfl ?_
    exact x_ireturn dX2_openGates_40 rfl rfl ⟨Nat.le_refl _, Nat.le_refl _⟩ ⟨by rw [hx, show (r 1).toNat = i by omega], rfl, rfl⟩
  | succ n ih =>
    intro i x hn hx hx2 l3
    have fk := hF.1
    have hc := hR.ct hI
    have b1 := hI.1
    have e4 := hR.1.2.1
    have c4 := hc.2.2.2.1
    have cc := (hF.2.2.2.2.2.2.2.2.2.2.2.1 i (by omega) (by omega)).2
    have cck := cc.1
    have e7 := (hR.2.2.1 i (by omega) (by omega)).2.2.2.1
    have es := (hR.2.2.1 i (by omega) (by omega)).2.2.2.2.1
    have hg := hI.gates i (by omega) (by omega)
    by_cases q : r (29 + 11 * i) = -100000005
    · rw [if_pos q] at e7
      refine x_iload_n dX2_openGates_4 rfl ?_
      refine x_aload_n dX2_openGates_5 rfl ?_
      refine gf_RX2_36 dX2_openGates_6 rfl (by assumption) ?_
      refine x_ic_ge (tgt := 39) dX2_openGates_9 (by decide) ⟨by omega, by omega⟩ ⟨by omega, by omega⟩ (fun h => absurd h (by omega)) (fun hb9 => ?_)
      refine x_aload_n dX2_openGates_12 rfl ?_
      refine x_iload_n dX2_openGates_13 rfl ?_
      refine c_RX2_52d dX2_openGates_14 rfl (kX2_chamberAt_y hF hc ⟨by omega, by omega⟩) (by assumption) (Nat.le_of_ble_eq_true rfl) (Nat.le_of_ble_eq_true rfl) ⟨Nat.le_refl _, Nat.le_refl _⟩ ?_
      refine x_astore_n dX2_openGates_17 (by decide) ?_
      show JX _ _ _ _ _ _ _ _ _ _ _ [_, _, _, _] _ _
      refine x_aload_n dX2_openGates_18 rfl ?_
      refine x_ifnull (tgt := 33) dX2_openGates_19 (by decide) (fun h => by cases h) (fun hb19 => ?_)
      refine x_aload_n dX2_openGates_22 rfl ?_
      refine gf_RX2_119 dX2_openGates_23 rfl (by assumption) ?_
      refine x_iconst dX2_openGates_26 ?_
      refine x_ic_eq (tgt := 33) dX2_openGates_27 (by decide) ⟨by omega, by omega⟩ ⟨by omega, by omega⟩ (fun hb27 => ?_) (fun h => (h (by omega)).elim)
      refine x_iinc dX2_openGates_33 rfl (by decide) ?_
      show JX _ _ _ _ _ _ _ _ _ _ _ [_, _, _, _] _ _
      refine x_goto (tgt := 4) dX2_openGates_36 (by decide) ?_
      exact ih (i + 1) _ (by omega) (by rw [hx, jsum_nat]; show _ = _ + (if 0 ≤ r (29 + 11 * i) then 1 else 0); rw [if_neg (by omega)]; omega) (by omega) _
    · rw [if_neg q] at e7
      refine x_iload_n dX2_openGates_4 rfl ?_
      refine x_aload_n dX2_openGates_5 rfl ?_
      refine gf_RX2_36 dX2_openGates_6 rfl (by assumption) ?_
      refine x_ic_ge (tgt := 39) dX2_openGates_9 (by decide) ⟨by omega, by omega⟩ ⟨by omega, by omega⟩ (fun h => absurd h (by omega)) (fun hb9 => ?_)
      refine x_aload_n dX2_openGates_12 rfl ?_
      refine x_iload_n dX2_openGates_13 rfl ?_
      refine c_RX2_52d dX2_openGates_14 rfl (kX2_chamberAt_y hF hc ⟨by omega, by omega⟩) (by assumption) (Nat.le_of_ble_eq_true rfl) (Nat.le_of_ble_eq_true rfl) ⟨Nat.le_refl _, Nat.le_refl _⟩ ?_
      refine x_astore_n dX2_openGates_17 (by decide) ?_
      show JX _ _ _ _ _ _ _ _ _ _ _ [_, _, _, _] _ _
      refine x_aload_n dX2_openGates_18 rfl ?_
      refine x_ifnull (tgt := 33) dX2_openGates_19 (by decide) (fun h => by cases h) (fun hb19 => ?_)
      refine x_aload_n dX2_openGates_22 rfl ?_
      refine gf_RX2_119 dX2_openGates_23 rfl (by assumption) ?_
      refine x_iconst dX2_openGates_26 ?_
      refine x_ic_eq (tgt := 33) dX2_openGates_27 (by decide) ⟨by omega, by omega⟩ ⟨by omega, by omega⟩ (fun h => absurd h (by omega)) (fun hb27 => ?_)
      refine x_iinc dX2_openGates_30 rfl (by decide) ?_
      show JX _ _ _ _ _ _ _ _ _ _ _ [_, _, _, _] _ _
      refine x_iinc dX2_openGates_33 rfl (by decide) ?_
      show JX _ _ _ _ _ _ _ _ _ _ _ [_, _, _, _] _ _
      refine x_goto (tgt := 4) dX2_openGates_36 (by decide) ?_
      exact ih (i + 1) _ (by omega) (by rw [hx, jsum_nat]; show _ = _ + (if 0 ≤ r (29 + 11 * i) then 1 else 0); rw [if_pos (by omega)]) (by omega) _
theorem kX2_openGates {G : JG} {S : JS} {D : JD} {d : Nat} {b t : Int} {r : Int → Int} (hF : jFl S b) (hR : jFR D b r) (hI : rIn t r) (ht : t ≤ 60000) : JM G yX2_openGates cX2_openGates 4 (some .int) (d + 1) (0, 0) S D [.inr (.inr (some b))] (jr (.inl (jsum (fun c => if 0 ≤ r (29 + 11 * c) then 1 else 0) (r 1).toNat)) S D) := by
  have b1 := hI.1
  show JX _ _ _ _ _ _ _ _ _ _ _ [_, _, _, _] _ _
  refine x_iconst dX2_openGates_0 ?_
  refine x_istore_n dX2_openGates_1 (by decide) ?_
  show JX _ _ _ _ _ _ _ _ _ _ _ [_, _, _, _] _ _
  refine x_iconst dX2_openGates_2 ?_
  refine x_istore_n dX2_openGates_3 (by decide) ?_
  show JX _ _ _ _ _ _ _ _ _ _ _ [_, _, _, _] _ _
  exact openGates_loop hF hR hI ht (r 1).toNat 0 0 (by omega) rfl (by omega) _
theorem bargesInChambers_loop {G : JG} {S : JS} {D : JD} {d : Nat} {b t : Int} {r : Int → Int} (hF : jFl S b) (hR : jFR D b r) (hI : rIn t r) (ht : t ≤ 60000) : ∀ (n i : Nat) (x : Int), (i : Int) + n = r 1 → x = jsum (fun c => r (161 + 13 * c)) i → ∀ l3 : Option JV,
    JX G yX2_bargesInChambers cX2_bargesInChambers 4 (some .int) (d + 1) (0, 0) (0, 0) S D 4 [some (.inr (.inr (some b))), some (.inl x), some (.inl i), l3] [] (jr (.inl (jsum (fun c => r (161 + 13 * c)) (r 1).toNat)) S D) := by
  intro n
  induction n with
  | zero =>
    intro i x hn hx l3
    have fk := hF.1
    have hc := hR.ct hI
    have b1 := hI.1
    have e4 := hR.1.2.1
    have c4 := hc.2.2.2.1
    refine x_iload_n dX2_bargesInChambers_4 rfl ?_
    refine x_aload_n dX2_bargesInChambers_5 rfl ?_
    refine gf_RX2_36 dX2_bargesInChambers_6 rfl (by assumption) ?_
    refine x_ic_ge (tgt := 39) dX2_bargesInChambers_9 (by decide) ⟨by omega, by omega⟩ ⟨by omega, by omega⟩ (fun hb9 => ?_) (fun h => (h (by omega)).elim)
    refine x_iload_n dX2_bargesInChambers_39 rfl ?_
    exact x_ireturn dX2_bargesInChambers_40 rfl rfl ⟨Nat.le_refl _, Nat.le_refl _⟩ ⟨by rw [hx, show (r 1).toNat = i by omega], rfl, rfl⟩
  | succ n ih =>
    intro i x hn hx l3
    have fk := hF.1
    have hc := hR.ct hI
    have b1 := hI.1
    have e4 := hR.1.2.1
    have c4 := hc.2.2.2.1
    have cc := (hF.2.2.2.2.2.2.2.2.2.2.2.1 i (by omega) (by omega)).2
    have cck := cc.1
    have e7 := (hR.2.2.1 i (by omega) (by omega)).2.2.2.1
    have es := (hR.2.2.1 i (by omega) (by omega)).2.2.2.2.1
    have hg := hI.gates i (by omega) (by omega)
    refine x_iload_n dX2_bargesInChambers_4 rfl ?_
    refine x_aload_n dX2_bargesInChambers_5 rfl ?_
    refine gf_RX2_36 dX2_bargesInChambers_6 rfl (by assumption) ?_
    refine x_ic_ge (tgt := 39) dX2_bargesInChambers_9 (by decide) ⟨by omega, by omega⟩ ⟨by omega, by omega⟩ (fun h => absurd h (by omega)) (fun hb9 => ?_)
    refine x_aload_n dX2_bargesInChambers_12 rfl ?_
    refine x_iload_n dX2_bargesInChambers_13 rfl ?_
    refine c_RX2_52d dX2_bargesInChambers_14 rfl (kX2_chamberAt_y hF hc ⟨by omega, by omega⟩) (by assumption) (Nat.le_of_ble_eq_true rfl) (Nat.le_of_ble_eq_true rfl) ⟨Nat.le_refl _, Nat.le_refl _⟩ ?_
    refine x_astore_n dX2_bargesInChambers_17 (by decide) ?_
    show JX _ _ _ _ _ _ _ _ _ _ _ [_, _, _, _] _ _
    refine x_iload_n dX2_bargesInChambers_18 rfl ?_
    refine x_aload_n dX2_bargesInChambers_19 rfl ?_
    refine x_ifnonnull (tgt := 27) dX2_bargesInChambers_20 (by decide) (fun hb20 => ?_) (fun h => by cases h)
    refine x_aload_n dX2_bargesInChambers_27 rfl ?_
    refine gf_RX2_154 dX2_bargesInChambers_28 rfl (by assumption) ?_
    refine x_iadd dX2_bargesInChambers_31 ?_
    refine x_istore_n dX2_bargesInChambers_32 (by decide) ?_
    show JX _ _ _ _ _ _ _ _ _ _ _ [_, _, _, _] _ _
    refine x_iinc dX2_bargesInChambers_33 rfl (by decide) ?_
    show JX _ _ _ _ _ _ _ _ _ _ _ [_, _, _, _] _ _
    refine x_goto (tgt := 4) dX2_bargesInChambers_36 (by decide) ?_
    exact ih (i + 1) _ (by omega) (by rw [hx, jsum_nat, es]) _
theorem kX2_bargesInChambers {G : JG} {S : JS} {D : JD} {d : Nat} {b t : Int} {r : Int → Int} (hF : jFl S b) (hR : jFR D b r) (hI : rIn t r) (ht : t ≤ 60000) : JM G yX2_bargesInChambers cX2_bargesInChambers 4 (some .int) (d + 1) (0, 0) S D [.inr (.inr (some b))] (jr (.inl (jsum (fun c => r (161 + 13 * c)) (r 1).toNat)) S D) := by
  have b1 := hI.1
  show JX _ _ _ _ _ _ _ _ _ _ _ [_, _, _, _] _ _
  refine x_iconst dX2_bargesInChambers_0 ?_
  refine x_istore_n dX2_bargesInChambers_1 (by decide) ?_
  show JX _ _ _ _ _ _ _ _ _ _ _ [_, _, _, _] _ _
  refine x_iconst dX2_bargesInChambers_2 ?_
  refine x_istore_n dX2_bargesInChambers_3 (by decide) ?_
  show JX _ _ _ _ _ _ _ _ _ _ _ [_, _, _, _] _ _
  exact bargesInChambers_loop hF hR hI ht (r 1).toNat 0 0 (by omega) rfl _
