/-! THE REFERENCE: sums over barges, levels -/
theorem X8_floats_loop {G : JG} {S : JS} {D : JD} {d : Nat} {M t w : Int} {r : Int → Int} (hM : jMo S M) (hr : D (M + 1) = r) (hI : rIn t r) (rw0 : i32 w) : ∀ (n i : Nat) (x : Int), (i : Int) + n = r 2 → x = jsum (fun b => if r (71 + 8 * b) = w then sW r b else 0) i →
    JX G yX8_floats cX8_floats 4 (some .int) (d + 2) (0, 0) (0, 0) S D 4 [some (.inr (.inr (some M))), some (.inl w), some (.inl x), some (.inl i)] [] (jr (.inl (jsum (fun b => if r (71 + 8 * b) = w then sW r b else 0) (r 2).toNat)) S D) := by
  intro n
  induction n with
  | zero =>
    intro i x hn hx
    have hM0 := hM
    obtain ⟨mk, m0, m1, m2, m4, m5, m8, m12, y1, l1, y2, l2, y3, l3, y4, l4, y5, l5, y6, l6, y7, l7⟩ := id hM
    have hr0 := hr
    have b1 := hI.1
    refine x_iload_n dX8_floats_4 rfl ?_
    refine x_aload_n dX8_floats_5 rfl ?_
    refine gf_RX8_7 dX8_floats_6 rfl (by assumption) ?_
    rw [m0]
    refine x_iconst dX8_floats_9 ?_
    refine x_iald dX8_floats_10 (by assumption) ⟨by omega, by omega⟩ ?_
    rw [hr]
    refine x_ic_ge (tgt := 43) dX8_floats_11 (by decide) ⟨by omega, by omega⟩ ⟨by omega, by omega⟩ (fun hb11 => ?_) (fun h => (h (by omega)).elim)
    refine x_iload_n dX8_floats_43 rfl ?_
    exact x_ireturn dX8_floats_44 rfl rfl ⟨Nat.le_refl _, Nat.le_refl _⟩ ⟨by rw [hx, show (r 2).toNat = i by omega], rfl, rfl⟩
  | succ n ih =>
    intro i x hn hx
    have hM0 := hM
    obtain ⟨mk, m0, m1, m2, m4, m5, m8, m12, y1, l1, y2, l2, y3, l3, y4, l4, y5, l5, y6, l6, y7, l7⟩ := id hM
    have hr0 := hr
    have b1 := hI.1
    have bb := hI.2.2.2.1 (i : Int) (by omega) (by omega)
    unfold rBo at bb
    by_cases q : r (71 + 8 * i) = w
    · refine x_iload_n dX8_floats_4 rfl ?_
      refine x_aload_n dX8_floats_5 rfl ?_
      refine gf_RX8_7 dX8_floats_6 rfl (by assumption) ?_
      rw [m0]
      refine x_iconst dX8_floats_9 ?_
      refine x_iald dX8_floats_10 (by assumption) ⟨by omega, by omega⟩ ?_
      rw [hr]
      refine x_ic_ge (tgt := 43) dX8_floats_11 (by decide) ⟨by omega, by omega⟩ ⟨by omega, by omega⟩ (fun h => absurd h (by omega)) (fun hb11 => ?_)
      refine x_iload_n dX8_floats_14 rfl ?_
      refine x_aload_n dX8_floats_15 rfl ?_
      refine x_iload_n dX8_floats_16 rfl ?_
      refine x_bipush dX8_floats_17 (by decide) ?_
      refine c_RX8_60d dX8_floats_19 rfl (kX8_of hM0 hr0 (by omega) (by omega)) (by assumption) (Nat.le_of_ble_eq_true rfl) (Nat.le_of_ble_eq_true rfl) ⟨Nat.le_refl _, Nat.le_refl _⟩ ?_
      rw [show 65 + 8 * (i : Int) + 6 = 71 + 8 * i by omega]
      refine x_iload_n dX8_floats_22 rfl ?_
      refine x_ic_ne (tgt := 34) dX8_floats_23 (by decide) ⟨by omega, by omega⟩ rw0 (fun h => absurd h (by omega)) (fun hb23 => ?_)
      refine x_aload_n dX8_floats_26 rfl ?_
      refine x_iload_n dX8_floats_27 rfl ?_
      refine c_RX8_64d dX8_floats_28 rfl (kX8_weight hM0 hr0 (by omega) (by omega)) (by assumption) (Nat.le_of_ble_eq_true rfl) (Nat.le_of_ble_eq_true rfl) ⟨Nat.le_refl _, Nat.le_refl _⟩ ?_
      refine x_goto (tgt := 35) dX8_floats_31 (by decide) ?_
      refine x_iadd dX8_floats_35 ?_
      refine x_istore_n dX8_floats_36 (by decide) ?_
      show JX _ _ _ _ _ _ _ _ _ _ _ [_, _, _, _] _ _
      refine x_iinc dX8_floats_37 rfl (by decide) ?_
      show JX _ _ _ _ _ _ _ _ _ _ _ [_, _, _, _] _ _
      refine x_goto (tgt := 4) dX8_floats_40 (by decide) ?_
      exact ih (i + 1) _ (by omega) (by rw [hx, jsum_nat]; show _ = _ + (if r (71 + 8 * i) = w then sW r i else 0); rw [if_pos q])
    · refine x_iload_n dX8_floats_4 rfl ?_
      refine x_aload_n dX8_floats_5 rfl ?_
      refine gf_RX8_7 dX8_floats_6 rfl (by assumption) ?_
      rw [m0]
      refine x_iconst dX8_floats_9 ?_
      refine x_iald dX8_floats_10 (by assumption) ⟨by omega, by omega⟩ ?_
      rw [hr]
      refine x_ic_ge (tgt := 43) dX8_floats_11 (by decide) ⟨by omega, by omega⟩ ⟨by omega, by omega⟩ (fun h => absurd h (by omega)) (fun hb11 => ?_)
      refine x_iload_n dX8_floats_14 rfl ?_
      refine x_aload_n dX8_floats_15 rfl ?_
      refine x_iload_n dX8_floats_16 rfl ?_
      refine x_bipush dX8_floats_17 (by decide) ?_
      refine c_RX8_60d dX8_floats_19 rfl (kX8_of hM0 hr0 (by omega) (by omega)) (by assumption) (Nat.le_of_ble_eq_true rfl) (Nat.le_of_ble_eq_true rfl) ⟨Nat.le_refl _, Nat.le_refl _⟩ ?_
      rw [show 65 + 8 * (i : Int) + 6 = 71 + 8 * i by omega]
      refine x_iload_n dX8_floats_22 rfl ?_
      refine x_ic_ne (tgt := 34) dX8_floats_23 (by decide) ⟨by omega, by omega⟩ rw0 (fun hb23 => ?_) (fun h => (h (by omega)).elim)
      refine x_iconst dX8_floats_34 ?_
      refine x_iadd dX8_floats_35 ?_
      refine x_istore_n dX8_floats_36 (by decide) ?_
      show JX _ _ _ _ _ _ _ _ _ _ _ [_, _, _, _] _ _
      refine x_iinc dX8_floats_37 rfl (by decide) ?_
      show JX _ _ _ _ _ _ _ _ _ _ _ [_, _, _, _] _ _
      refine x_goto (tgt := 4) dX8_floats_40 (by decide) ?_
      exact ih (i + 1) _ (by omega) (by rw [hx, jsum_nat]; show _ = _ + (if r (71 + 8 * i) = w then sW r i else 0); rw [if_neg q])
theorem kX8_floats {G : JG} {S : JS} {D : JD} {d : Nat} {M t w : Int} {r : Int → Int} (hM : jMo S M) (hr : D (M + 1) = r) (hI : rIn t r) (rw0 : i32 w) : JM G yX8_floats cX8_floats 4 (some .int) (d + 2) (0, 0) S D [.inr (.inr (some M)), .inl w] (jr (.inl (sFl r w)) S D) := by
  have b1 := hI.1
  show JX _ _ _ _ _ _ _ _ _ _ _ [_, _, _, _] _ _
  refine x_iconst dX8_floats_0 ?_
  refine x_istore_n dX8_floats_1 (by decide) ?_
  show JX _ _ _ _ _ _ _ _ _ _ _ [_, _, _, _] _ _
  refine x_iconst dX8_floats_2 ?_
  refine x_istore_n dX8_floats_3 (by decide) ?_
  show JX _ _ _ _ _ _ _ _ _ _ _ [_, _, _, _] _ _
  exact X8_floats_loop hM hr hI rw0 (r 2).toNat 0 0 (by omega) rfl
theorem X8_bargesIn_loop {G : JG} {S : JS} {D : JD} {d : Nat} {M t w : Int} {r : Int → Int} (hM : jMo S M) (hr : D (M + 1) = r) (hI : rIn t r) (rw0 : i32 w) : ∀ (n i : Nat) (x : Int), (i : Int) + n = r 2 → x = jsum (fun b => if r (71 + 8 * b) = w then (1 : Int) else 0) i →
    JX G yX8_bargesIn cX8_bargesIn 4 (some .int) (d + 1) (0, 0) (0, 0) S D 4 [some (.inr (.inr (some M))), some (.inl w), some (.inl x), some (.inl i)] [] (jr (.inl (jsum (fun b => if r (71 + 8 * b) = w then (1 : Int) else 0) (r 2).toNat)) S D) := by
  intro n
  induction n with
  | zero =>
    intro i x hn hx
    have hM0 := hM
    obtain ⟨mk, m0, m1, m2, m4, m5, m8, m12, y1, l1, y2, l2, y3, l3, y4, l4, y5, l5, y6, l6, y7, l7⟩ := id hM
    have hr0 := hr
    have b1 := hI.1
    refine x_iload_n dX8_bargesIn_4 rfl ?_
    refine x_aload_n dX8_bargesIn_5 rfl ?_
    refine gf_RX8_7 dX8_bargesIn_6 rfl (by assumption) ?_
    rw [m0]
    refine x_iconst dX8_bargesIn_9 ?_
    refine x_iald dX8_bargesIn_10 (by assumption) ⟨by omega, by omega⟩ ?_
    rw [hr]
    refine x_ic_ge (tgt := 39) dX8_bargesIn_11 (by decide) ⟨by omega, by omega⟩ ⟨by omega, by omega⟩ (fun hb11 => ?_) (fun h => (h (by omega)).elim)
    refine x_iload_n dX8_bargesIn_39 rfl ?_
    exact x_ireturn dX8_bargesIn_40 rfl rfl ⟨Nat.le_refl _, Nat.le_refl _⟩ ⟨by rw [hx, show (r 2).toNat = i by omega], rfl, rfl⟩
  | succ n ih =>
    intro i x hn hx
    have hM0 := hM
    obtain ⟨mk, m0, m1, m2, m4, m5, m8, m12, y1, l1, y2, l2, y3, l3, y4, l4, y5, l5, y6, l6, y7, l7⟩ := id hM
    have hr0 := hr
    have b1 := hI.1
    have bb := hI.2.2.2.1 (i : Int) (by omega) (by omega)
    unfold rBo at bb
    by_cases q : r (71 + 8 * i) = w
    · refine x_iload_n dX8_bargesIn_4 rfl ?_
      refine x_aload_n dX8_bargesIn_5 rfl ?_
      refine gf_RX8_7 dX8_bargesIn_6 rfl (by assumption) ?_
      rw [m0]
      refine x_iconst dX8_bargesIn_9 ?_
      refine x_iald dX8_bargesIn_10 (by assumption) ⟨by omega, by omega⟩ ?_
      rw [hr]
      refine x_ic_ge (tgt := 39) dX8_bargesIn_11 (by decide) ⟨by omega, by omega⟩ ⟨by omega, by omega⟩ (fun h => absurd h (by omega)) (fun hb11 => ?_)
      refine x_iload_n dX8_bargesIn_14 rfl ?_
      refine x_aload_n dX8_bargesIn_15 rfl ?_
      refine x_iload_n dX8_bargesIn_16 rfl ?_
      refine x_bipush dX8_bargesIn_17 (by decide) ?_
      refine c_RX8_60d dX8_bargesIn_19 rfl (kX8_of hM0 hr0 (by omega) (by omega)) (by assumption) (Nat.le_of_ble_eq_true rfl) (Nat.le_of_ble_eq_true rfl) ⟨Nat.le_refl _, Nat.le_refl _⟩ ?_
      rw [show 65 + 8 * (i : Int) + 6 = 71 + 8 * i by omega]
      refine x_iload_n dX8_bargesIn_22 rfl ?_
      refine x_ic_ne (tgt := 30) dX8_bargesIn_23 (by decide) ⟨by omega, by omega⟩ rw0 (fun h => absurd h (by omega)) (fun hb23 => ?_)
      refine x_iconst dX8_bargesIn_26 ?_
      refine x_goto (tgt := 31) dX8_bargesIn_27 (by decide) ?_
      refine x_iadd dX8_bargesIn_31 ?_
      refine x_istore_n dX8_bargesIn_32 (by decide) ?_
      show JX _ _ _ _ _ _ _ _ _ _ _ [_, _, _, _] _ _
      refine x_iinc dX8_bargesIn_33 rfl (by decide) ?_
      show JX _ _ _ _ _ _ _ _ _ _ _ [_, _, _, _] _ _
      refine x_goto (tgt := 4) dX8_bargesIn_36 (by decide) ?_
      exact ih (i + 1) _ (by omega) (by rw [hx, jsum_nat]; show _ = _ + (if r (71 + 8 * i) = w then (1 : Int) else 0); rw [if_pos q])
    · refine x_iload_n dX8_bargesIn_4 rfl ?_
      refine x_aload_n dX8_bargesIn_5 rfl ?_
      refine gf_RX8_7 dX8_bargesIn_6 rfl (by assumption) ?_
      rw [m0]
      refine x_iconst dX8_bargesIn_9 ?_
      refine x_iald dX8_bargesIn_10 (by assumption) ⟨by omega, by omega⟩ ?_
      rw [hr]
      refine x_ic_ge (tgt := 39) dX8_bargesIn_11 (by decide) ⟨by omega, by omega⟩ ⟨by omega, by omega⟩ (fun h => absurd h (by omega)) (fun hb11 => ?_)
      refine x_iload_n dX8_bargesIn_14 rfl ?_
      refine x_aload_n dX8_bargesIn_15 rfl ?_
      refine x_iload_n dX8_bargesIn_16 rfl ?_
      refine x_bipush dX8_bargesIn_17 (by decide) ?_
      refine c_RX8_60d dX8_bargesIn_19 rfl (kX8_of hM0 hr0 (by omega) (by omega)) (by assumption) (Nat.le_of_ble_eq_true rfl) (Nat.le_of_ble_eq_true rfl) ⟨Nat.le_refl _, Nat.le_refl _⟩ ?_
      rw [show 65 + 8 * (i : Int) + 6 = 71 + 8 * i by omega]
      refine x_iload_n dX8_bargesIn_22 rfl ?_
      refine x_ic_ne (tgt := 30) dX8_bargesIn_23 (by decide) ⟨by omega, by omega⟩ rw0 (fun hb23 => ?_) (fun h => (h (by omega)).elim)
      refine x_iconst dX8_bargesIn_30 ?_
      refine x_iadd dX8_bargesIn_31 ?_
      refine x_istore_n dX8_bargesIn_32 (by decide) ?_
      show JX _ _ _ _ _ _ _ _ _ _ _ [_, _, _, _] _ _
      refine x_iinc dX8_bargesIn_33 rfl (by decide) ?_
      show JX _ _ _ _ _ _ _ _ _ _ _ [_, _, _, _] _ _
      refine x_goto (tgt := 4) dX8_bargesIn_36 (by decide) ?_
      exact ih (i + 1) _ (by omega) (by rw [hx, jsum_nat]; show _ = _ + (if r (71 + 8 * i) = w then (1 : Int) else 0); rw [if_neg q])
theorem kX8_bargesIn {G : JG} {S : JS} {D : JD} {d : Nat} {M t w : Int} {r : Int → Int} (hM : jMo S M) (hr : D (M + 1) = r) (hI : rIn t r) (rw0 : i32 w) : JM G yX8_bargesIn cX8_bargesIn 4 (some .int) (d + 1) (0, 0) S D [.inr (.inr (some M)), .inl w] (jr (.inl (sCn r w)) S D) := by
  have b1 := hI.1
  show JX _ _ _ _ _ _ _ _ _ _ _ [_, _, _, _] _ _
  refine x_iconst dX8_bargesIn_0 ?_
  refine x_istore_n dX8_bargesIn_1 (by decide) ?_
  show JX _ _ _ _ _ _ _ _ _ _ _ [_, _, _, _] _ _
  refine x_iconst dX8_bargesIn_2 ?_
  refine x_istore_n dX8_bargesIn_3 (by decide) ?_
  show JX _ _ _ _ _ _ _ _ _ _ _ [_, _, _, _] _ _
  exact X8_bargesIn_loop hM hr hI rw0 (r 2).toNat 0 0 (by omega) rfl
theorem jd_down1 {x z : Int} (hz : 0 < z) (h : x.tmod z < 0) : x / z = x.tdiv z - 1 := by
  have e := Int.mul_tdiv_add_tmod x z
  have c : x.tdiv z * z = z * x.tdiv z := Int.mul_comm _ _
  have hx : x < 0 := by
    rcases Int.lt_or_le x 0 with q | q
    · exact q
    · have := Int.tmod_nonneg (a := x) z q
      omega
  exact jfd_neg hx hz (by omega)
theorem jd_down2 {x z : Int} (hz : 0 < z) (h : ¬ x.tmod z < 0) : x / z = x.tdiv z := by
  have e := Int.mul_tdiv_add_tmod x z
  have c : x.tdiv z * z = z * x.tdiv z := Int.mul_comm _ _
  rcases Int.lt_or_le x 0 with q | q
  · have g := Int.tmod_nonneg (a := -x) z (by omega)
    rw [Int.neg_tmod] at g
    exact jfd_exact hz (by omega)
  · exact jfd_pos q
theorem jd_tm {x z : Int} (rx : i64 x) (rz : i64 z) (hz : 0 < z) : i64 (x.tmod z) := by
  have h1 := Int.tmod_lt_of_pos x hz
  have h2 := Int.lt_tmod_of_pos x hz
  unfold i64 at *
  omega
theorem kX8_down_n {G : JG} {S : JS} {D : JD} {d : Nat} {x z : Int} (rx : i64 x) (rz : i64 z) (hz : 0 < z) (h : x.tmod z < 0) : JM G yX8_down cX8_down 6 (some .long) d (0, 0) S D [.inr (.inl x), .inr (.inl z)] (jr (.inr (.inl (x / z))) S D) := by
  show JX _ _ _ _ _ _ _ _ _ _ _ [_, _, _, _, _, _] _ _
  refine x_lload_n dX8_down_0 rfl ?_
  refine x_lload_n dX8_down_1 rfl ?_
  refine x_ldiv dX8_down_2 rx rz hz ?_
  refine x_lstore dX8_down_3 (by decide) ?_
  show JX _ _ _ _ _ _ _ _ _ _ _ [_, _, _, _, _, _] _ _
  refine x_lload_n dX8_down_5 rfl ?_
  refine x_lload_n dX8_down_6 rfl ?_
  refine x_lrem dX8_down_7 rx rz hz ?_
  refine x_lconst (e := 0) dX8_down_8 (by decide) ?_
  refine x_lc_ge (tgt := 20) dX8_down_9 dX8_down_10 (by decide) (jd_tm rx rz hz) ⟨by omega, by omega⟩ (fun h => absurd h (by omega)) (fun hb10 => ?_)
  refine x_lload dX8_down_13 rfl ?_
  refine x_lconst (e := 1) dX8_down_15 (by decide) ?_
  refine x_lsub dX8_down_16 ?_
  refine x_goto (tgt := 22) dX8_down_17 (by decide) ?_
  exact x_lreturn dX8_down_22 rfl ⟨Nat.le_refl _, Nat.le_refl _⟩ ⟨by rw [jd_down1 hz h], rfl, rfl⟩
theorem kX8_down_p {G : JG} {S : JS} {D : JD} {d : Nat} {x z : Int} (rx : i64 x) (rz : i64 z) (hz : 0 < z) (h : ¬ x.tmod z < 0) : JM G yX8_down cX8_down 6 (some .long) d (0, 0) S D [.inr (.inl x), .inr (.inl z)] (jr (.inr (.inl (x / z))) S D) := by
  show JX _ _ _ _ _ _ _ _ _ _ _ [_, _, _, _, _, _] _ _
  refine x_lload_n dX8_down_0 rfl ?_
  refine x_lload_n dX8_down_1 rfl ?_
  refine x_ldiv dX8_down_2 rx rz hz ?_
  refine x_lstore dX8_down_3 (by decide) ?_
  show JX _ _ _ _ _ _ _ _ _ _ _ [_, _, _, _, _, _] _ _
  refine x_lload_n dX8_down_5 rfl ?_
  refine x_lload_n dX8_down_6 rfl ?_
  refine x_lrem dX8_down_7 rx rz hz ?_
  refine x_lconst (e := 0) dX8_down_8 (by decide) ?_
  refine x_lc_ge (tgt := 20) dX8_down_9 dX8_down_10 (by decide) (jd_tm rx rz hz) ⟨by omega, by omega⟩ (fun hb10 => ?_) (fun h => (h (by omega)).elim)
  refine x_lload dX8_down_20 rfl ?_
  exact x_lreturn dX8_down_22 rfl ⟨Nat.le_refl _, Nat.le_refl _⟩ ⟨by rw [jd_down2 hz h], rfl, rfl⟩
theorem kX8_down {G : JG} {S : JS} {D : JD} {d : Nat} {x z : Int} (rx : i64 x) (rz : i64 z) (hz : 0 < z) : JM G yX8_down cX8_down 6 (some .long) d (0, 0) S D [.inr (.inl x), .inr (.inl z)] (jr (.inr (.inl (x / z))) S D) := by
  by_cases h : x.tmod z < 0
  · exact kX8_down_n rx rz hz h
  · exact kX8_down_p rx rz hz h
