/-! THE REFERENCE: lengthLeft -/
theorem lengthLeft_loop {G : JG} {S : JS} {D : JD} {d : Nat} {M t c : Int} {r : Int → Int} (hM : jMo S M) (hr : D (M + 1) = r) (hI : rIn t r) (c0 : 0 ≤ c) (c1 : c < r 1) : ∀ (n i : Nat) (x : Int), (i : Int) + n = r 2 → x = r (24 + 11 * c) - jsum (fun b => if r (71 + 8 * b) = 100 + c then r (65 + 8 * b) else 0) i →
    JX G yX8_lengthLeft cX8_lengthLeft 4 (some .int) (d + 1) (0, 0) (0, 0) S D 9 [some (.inr (.inr (some M))), some (.inl c), some (.inl x), some (.inl i)] [] (jr (.inl (sLf r c)) S D) := by
  intro n
  induction n with
  | zero =>
    intro i x hn hx
    have hM0 := hM
    obtain ⟨mk, m0, m1, m2, m4, m5, m8, m12, y1, l1, y2, l2, y3, l3, y4, l4, y5, l5, y6, l6, y7, l7⟩ := id hM
    have hr0 := hr
    have b1 := hI.1
    refine x_iload_n dX8_lengthLeft_9 rfl ?_
    refine x_aload_n dX8_lengthLeft_10 rfl ?_
    refine gf_RX8_7 dX8_lengthLeft_11 rfl (by assumption) ?_
    rw [m0]
    refine x_iconst dX8_lengthLeft_14 ?_
    refine x_iald dX8_lengthLeft_15 (by assumption) ⟨by omega, by omega⟩ ?_
    rw [hr]
    refine x_ic_ge (tgt := 52) dX8_lengthLeft_16 (by decide) ⟨by omega, by omega⟩ ⟨by omega, by omega⟩ (fun hb16 => ?_) (fun h => (h (by omega)).elim)
    refine x_iload_n dX8_lengthLeft_52 rfl ?_
    exact x_ireturn dX8_lengthLeft_53 rfl rfl ⟨Nat.le_refl _, Nat.le_refl _⟩ ⟨by unfold sLf; rw [hx, show (r 2).toNat = i by omega], rfl, rfl⟩
  | succ n ih =>
    intro i x hn hx
    have hM0 := hM
    obtain ⟨mk, m0, m1, m2, m4, m5, m8, m12, y1, l1, y2, l2, y3, l3, y4, l4, y5, l5, y6, l6, y7, l7⟩ := id hM
    have hr0 := hr
    have b1 := hI.1
    have bb := hI.2.2.2.1 (i : Int) (by omega) (by omega)
    unfold rBo at bb
    by_cases q : r (71 + 8 * i) = 100 + c
    · refine x_iload_n dX8_lengthLeft_9 rfl ?_
      refine x_aload_n dX8_lengthLeft_10 rfl ?_
      refine gf_RX8_7 dX8_lengthLeft_11 rfl (by assumption) ?_
      rw [m0]
      refine x_iconst dX8_lengthLeft_14 ?_
      refine x_iald dX8_lengthLeft_15 (by assumption) ⟨by omega, by omega⟩ ?_
      rw [hr]
      refine x_ic_ge (tgt := 52) dX8_lengthLeft_16 (by decide) ⟨by omega, by omega⟩ ⟨by omega, by omega⟩ (fun h => absurd h (by omega)) (fun hb16 => ?_)
      refine x_iload_n dX8_lengthLeft_19 rfl ?_
      refine x_aload_n dX8_lengthLeft_20 rfl ?_
      refine x_iload_n dX8_lengthLeft_21 rfl ?_
      refine x_bipush dX8_lengthLeft_22 (by decide) ?_
      refine c_RX8_60d dX8_lengthLeft_24 rfl (kX8_of hM0 hr0 (by omega) (by omega)) (by assumption) (Nat.le_of_ble_eq_true rfl) (Nat.le_of_ble_eq_true rfl) ⟨Nat.le_refl _, Nat.le_refl _⟩ ?_
      rw [show 65 + 8 * (i : Int) + 6 = 71 + 8 * i by omega]
      refine x_bipush dX8_lengthLeft_27 (by decide) ?_
      refine x_iload_n dX8_lengthLeft_29 rfl ?_
      refine x_iadd dX8_lengthLeft_30 ?_
      refine x_ic_ne (tgt := 43) dX8_lengthLeft_31 (by decide) ⟨by omega, by omega⟩ ⟨by omega, by omega⟩ (fun h => absurd h (by omega)) (fun hb31 => ?_)
      refine x_aload_n dX8_lengthLeft_34 rfl ?_
      refine x_iload_n dX8_lengthLeft_35 rfl ?_
      refine x_iconst dX8_lengthLeft_36 ?_
      refine c_RX8_60d dX8_lengthLeft_37 rfl (kX8_of hM0 hr0 (by omega) (by omega)) (by assumption) (Nat.le_of_ble_eq_true rfl) (Nat.le_of_ble_eq_true rfl) ⟨Nat.le_refl _, Nat.le_refl _⟩ ?_
      rw [Int.add_zero]
      refine x_goto (tgt := 44) dX8_lengthLeft_40 (by decide) ?_
      refine x_isub dX8_lengthLeft_44 ?_
      refine x_istore_n dX8_lengthLeft_45 (by decide) ?_
      show JX _ _ _ _ _ _ _ _ _ _ _ [_, _, _, _] _ _
      refine x_iinc dX8_lengthLeft_46 rfl (by decide) ?_
      show JX _ _ _ _ _ _ _ _ _ _ _ [_, _, _, _] _ _
      refine x_goto (tgt := 9) dX8_lengthLeft_49 (by decide) ?_
      exact ih (i + 1) _ (by omega) (by rw [hx, jsum_nat]; show _ = _ - (_ + (if r (71 + 8 * i) = 100 + c then r (65 + 8 * i) else 0)); rw [if_pos q]; omega)
    · refine x_iload_n dX8_lengthLeft_9 rfl ?_
      refine x_aload_n dX8_lengthLeft_10 rfl ?_
      refine gf_RX8_7 dX8_lengthLeft_11 rfl (by assumption) ?_
      rw [m0]
      refine x_iconst dX8_lengthLeft_14 ?_
      refine x_iald dX8_lengthLeft_15 (by assumption) ⟨by omega, by omega⟩ ?_
      rw [hr]
      refine x_ic_ge (tgt := 52) dX8_lengthLeft_16 (by decide) ⟨by omega, by omega⟩ ⟨by omega, by omega⟩ (fun h => absurd h (by omega)) (fun hb16 => ?_)
      refine x_iload_n dX8_lengthLeft_19 rfl ?_
      refine x_aload_n dX8_lengthLeft_20 rfl ?_
      refine x_iload_n dX8_lengthLeft_21 rfl ?_
      refine x_bipush dX8_lengthLeft_22 (by decide) ?_
      refine c_RX8_60d dX8_lengthLeft_24 rfl (kX8_of hM0 hr0 (by omega) (by omega)) (by assumption) (Nat.le_of_ble_eq_true rfl) (Nat.le_of_ble_eq_true rfl) ⟨Nat.le_refl _, Nat.le_refl _⟩ ?_
      rw [show 65 + 8 * (i : Int) + 6 = 71 + 8 * i by omega]
      refine x_bipush dX8_lengthLeft_27 (by decide) ?_
      refine x_iload_n dX8_lengthLeft_29 rfl ?_
      refine x_iadd dX8_lengthLeft_30 ?_
      refine x_ic_ne (tgt := 43) dX8_lengthLeft_31 (by decide) ⟨by omega, by omega⟩ ⟨by omega, by omega⟩ (fun hb31 => ?_) (fun h => (h (by omega)).elim)
      refine x_iconst dX8_lengthLeft_43 ?_
      refine x_isub dX8_lengthLeft_44 ?_
      refine x_istore_n dX8_lengthLeft_45 (by decide) ?_
      show JX _ _ _ _ _ _ _ _ _ _ _ [_, _, _, _] _ _
      refine x_iinc dX8_lengthLeft_46 rfl (by decide) ?_
      show JX _ _ _ _ _ _ _ _ _ _ _ [_, _, _, _] _ _
      refine x_goto (tgt := 9) dX8_lengthLeft_49 (by decide) ?_
      exact ih (i + 1) _ (by omega) (by rw [hx, jsum_nat]; show _ = _ - (_ + (if r (71 + 8 * i) = 100 + c then r (65 + 8 * i) else 0)); rw [if_neg q]; omega)
theorem kX8_lengthLeft {G : JG} {S : JS} {D : JD} {d : Nat} {M t c : Int} {r : Int → Int} (hM : jMo S M) (hr : D (M + 1) = r) (hI : rIn t r) (c0 : 0 ≤ c) (c1 : c < r 1) : JM G yX8_lengthLeft cX8_lengthLeft 4 (some .int) (d + 1) (0, 0) S D [.inr (.inr (some M)), .inl c] (jr (.inl (sLf r c)) S D) := by
  have hM0 := hM
  obtain ⟨mk, m0, m1, m2, m4, m5, m8, m12, y1, l1, y2, l2, y3, l3, y4, l4, y5, l5, y6, l6, y7, l7⟩ := id hM
  have hr0 := hr
  have b1 := hI.1
  show JX _ _ _ _ _ _ _ _ _ _ _ [_, _, _, _] _ _
  refine x_aload_n dX8_lengthLeft_0 rfl ?_
  refine x_iload_n dX8_lengthLeft_1 rfl ?_
  refine x_iconst dX8_lengthLeft_2 ?_
  refine c_RX8_89d dX8_lengthLeft_3 rfl (kX8_chamberOf hM0 hr0 (by omega) (by omega)) (by assumption) (Nat.le_of_ble_eq_true rfl) (Nat.le_of_ble_eq_true rfl) ⟨Nat.le_refl _, Nat.le_refl _⟩ ?_
  rw [show 21 + 11 * c + 3 = 24 + 11 * c by omega]
  refine x_istore_n dX8_lengthLeft_6 (by decide) ?_
  show JX _ _ _ _ _ _ _ _ _ _ _ [_, _, _, _] _ _
  refine x_iconst dX8_lengthLeft_7 ?_
  refine x_istore_n dX8_lengthLeft_8 (by decide) ?_
  show JX _ _ _ _ _ _ _ _ _ _ _ [_, _, _, _] _ _
  exact lengthLeft_loop hM hr hI c0 c1 (r 2).toNat 0 _ (by omega) (by show _ = _ - (0 : Int); omega)
