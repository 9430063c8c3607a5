/-! THE REFERENCE: share, shareAll -/
theorem kX8_share {G : JG} {S : JS} {D : JD} {d : Nat} {M t : Int} {r : Int → Int} {c g : Int} (hM : jMo S M) (hr : D (M + 1) = r) (hI : rIn t r) (ht : t ≤ 60000) (c0 : 0 ≤ c) (c1 : c < r 1) (hg : g = 0 ∨ g = 1) : JM G yX8_share cX8_share 5 none (d + 4) (0, 0) S D [.inr (.inr (some M)), .inl c, .inl g] (jnP S (fun D2 => D2 (M + 1) = sSh r c g ∧ ∀ x : Int, x ≠ M + 1 → D2 x = D x)) := by
  have hM0 := hM
  obtain ⟨mk, m0, m1, m2, m4, m5, m8, m12, y1, l1, y2, l2, y3, l3, y4, l4, y5, l5, y6, l6, y7, l7⟩ := id hM
  have hr0 := hr
  have b1 := hI.1
  have hrr := hI.reach c0 c1 hg
  show JX _ _ _ _ _ _ _ _ _ _ _ [_, _, _, _, _] _ _
  refine x_aload_n dX8_share_0 rfl ?_
  refine x_iload_n dX8_share_1 rfl ?_
  refine x_iload_n dX8_share_2 rfl ?_
  refine c_RX8_86d dX8_share_3 rfl (kX8_shared hM0 hr0 hI ht c0 c1 hg) (by assumption) (Nat.le_of_ble_eq_true rfl) (Nat.le_of_ble_eq_true rfl) ⟨Nat.le_refl _, Nat.le_refl _⟩ ?_
  refine x_istore_n dX8_share_6 (by decide) ?_
  show JX _ _ _ _ _ _ _ _ _ _ _ [_, _, _, _, _] _ _
  refine x_bipush dX8_share_7 (by decide) ?_
  refine x_iload_n dX8_share_9 rfl ?_
  refine x_iadd dX8_share_10 ?_
  refine c_RX8_68d dX8_share_11 rfl (kX8_waterAt ⟨by omega, by omega⟩) (Nat.le_of_ble_eq_true rfl) (Nat.le_of_ble_eq_true rfl) ⟨Nat.le_refl _, Nat.le_refl _⟩ ?_
  rw [wA_c c0]
  refine x_iconst dX8_share_14 ?_
  refine x_iadd dX8_share_15 ?_
  refine x_istore dX8_share_16 (by decide) ?_
  show JX _ _ _ _ _ _ _ _ _ _ _ [_, _, _, _, _] _ _
  refine x_aload_n dX8_share_18 rfl ?_
  refine gf_RX8_7 dX8_share_19 rfl (by assumption) ?_
  rw [m0]
  refine x_iload_n dX8_share_22 rfl ?_
  refine x_iload_n dX8_share_23 rfl ?_
  refine x_iadd dX8_share_24 ?_
  refine c_RX8_68d dX8_share_25 rfl (kX8_waterAt ⟨by omega, by omega⟩) (Nat.le_of_ble_eq_true rfl) (Nat.le_of_ble_eq_true rfl) ⟨Nat.le_refl _, Nat.le_refl _⟩ ?_
  rw [wA_r (by omega)]
  refine x_iconst dX8_share_28 ?_
  refine x_iadd dX8_share_29 ?_
  refine x_dup2 dX8_share_30 (fun _ h => by cases h) (fun _ h => by cases h) ?_
  refine x_iald dX8_share_31 (by assumption) ⟨by omega, by omega⟩ ?_
  rw [hr, show 6 + 3 * (c + g) + 2 = 8 + 3 * (c + g) by omega]
  refine x_aload_n dX8_share_32 rfl ?_
  refine gf_RX8_7 dX8_share_33 rfl (by assumption) ?_
  rw [m0]
  refine x_iload dX8_share_36 rfl ?_
  refine x_iald dX8_share_38 (by assumption) ⟨by omega, by omega⟩ ?_
  rw [hr, show 21 + 11 * c + 2 = 23 + 11 * c by omega]
  refine x_iload_n dX8_share_39 rfl ?_
  refine x_isub dX8_share_40 ?_
  refine x_iadd dX8_share_41 ?_
  refine x_iast dX8_share_42 (by assumption) ⟨by omega, by omega⟩ ?_
  refine x_aload_n dX8_share_43 rfl ?_
  refine gf_RX8_7 dX8_share_44 rfl (by assumption) ?_
  rw [m0]
  refine x_iload dX8_share_47 rfl ?_
  refine x_iload_n dX8_share_49 rfl ?_
  refine x_iast dX8_share_50 (by assumption) ⟨by omega, by omega⟩ ?_
  exact x_return dX8_share_51 rfl ⟨Nat.le_refl _, Nat.le_refl _⟩ ⟨rfl, rfl, by rw [jup_row, jup_row, hr]; unfold sSh; rw [show r (8 + 3 * (c + g)) + (r (23 + 11 * c) - sShd r c g) = r (23 + 11 * c) + r (8 + 3 * (c + g)) - sShd r c g by omega], fun x hx => by rw [jup_off hx, jup_off hx]⟩
theorem shareAll_loop {G : JG} {S : JS} {D0 : JD} {d : Nat} {M t : Int} {r : Int → Int} (hM : jMo S M) (hI0 : rIn t r) (ht : t ≤ 60000) : ∀ (n i : Nat) (D : JD), (i : Int) + n = r 1 → D (M + 1) = sAllN r i → rIn t (sAllN r i) → (∀ x : Int, x ≠ M + 1 → D x = D0 x) →
    JX G yX8_shareAll cX8_shareAll 2 none (d + 5) (0, 0) (0, 0) S D 2 [some (.inr (.inr (some M))), some (.inl i)] [] (jnP S (fun D2 => D2 (M + 1) = sAll r ∧ ∀ x : Int, x ≠ M + 1 → D2 x = D0 x)) := by
  have hb1 := hI0.1
  intro n
  induction n with
  | zero =>
    intro i D hn hr hI hX
    have hM0 := hM
    obtain ⟨mk, m0, m1, m2, m4, m5, m8, m12, y1, l1, y2, l2, y3, l3, y4, l4, y5, l5, y6, l6, y7, l7⟩ := id hM
    have hr0 := hr
    have b1 := hI0.1
    have k1 := sAllN_keep (r := r) i 1 (by omega) (fun i _ _ => by omega) (fun c _ _ => by omega) (fun c x y => hI0.gates c x (by omega))
    refine x_iload_n dX8_shareAll_2 rfl ?_
    refine x_aload_n dX8_shareAll_3 rfl ?_
    refine gf_RX8_7 dX8_shareAll_4 rfl (by assumption) ?_
    rw [m0]
    refine x_iconst dX8_shareAll_7 ?_
    refine x_iald dX8_shareAll_8 (by assumption) ⟨by omega, by omega⟩ ?_
    rw [hr, k1]
    refine x_ic_ge (tgt := 36) dX8_shareAll_9 (by decide) ⟨by omega, by omega⟩ ⟨by omega, by omega⟩ (fun hb9 => ?_) (fun h => (h (by omega)).elim)
    exact x_return dX8_shareAll_36 rfl ⟨Nat.le_refl _, Nat.le_refl _⟩ ⟨rfl, rfl, by unfold sAll; rw [show (r 1).toNat = i by omega]; exact hr, hX⟩
  | succ n ih =>
    intro i D hn hr hI hX
    have hM0 := hM
    obtain ⟨mk, m0, m1, m2, m4, m5, m8, m12, y1, l1, y2, l2, y3, l3, y4, l4, y5, l5, y6, l6, y7, l7⟩ := id hM
    have hr0 := hr
    have b1 := hI0.1
    have k1 := sAllN_keep (r := r) i 1 (by omega) (fun i _ _ => by omega) (fun c _ _ => by omega) (fun c x y => hI0.gates c x (by omega))
    have k29 := sAllN_keep (r := r) i (29 + 11 * i) (by omega) (fun i _ _ => by omega) (fun c _ _ => by omega) (fun c x y => hI0.gates c x (by omega))
    have hg := hI0.gates i (by omega) (by omega)
    by_cases q : r (29 + 11 * i) < 0
    · have es : sAllN r (i + 1) = sAllN r i := by
        show (if 0 ≤ sAllN r i (29 + 11 * i) then sSh (sAllN r i) i (sAllN r i (29 + 11 * i)) else sAllN r i) = _
        rw [k29, if_neg (by omega)]
      refine x_iload_n dX8_shareAll_2 rfl ?_
      refine x_aload_n dX8_shareAll_3 rfl ?_
      refine gf_RX8_7 dX8_shareAll_4 rfl (by assumption) ?_
      rw [m0]
      refine x_iconst dX8_shareAll_7 ?_
      refine x_iald dX8_shareAll_8 (by assumption) ⟨by omega, by omega⟩ ?_
      rw [hr, k1]
      refine x_ic_ge (tgt := 36) dX8_shareAll_9 (by decide) ⟨by omega, by omega⟩ ⟨by omega, by omega⟩ (fun h => absurd h (by omega)) (fun hb9 => ?_)
      refine x_aload_n dX8_shareAll_12 rfl ?_
      refine x_iload_n dX8_shareAll_13 rfl ?_
      refine c_RX8_92d dX8_shareAll_14 rfl (kX8_openGate hM0 hr0 (by omega) (by omega)) (by assumption) (Nat.le_of_ble_eq_true rfl) (Nat.le_of_ble_eq_true rfl) ⟨Nat.le_refl _, Nat.le_refl _⟩ ?_
      rw [k29]
      refine x_if_lt (tgt := 30) dX8_shareAll_17 (by decide) ⟨by omega, by omega⟩ (fun hb17 => ?_) (fun h => (h (by omega)).elim)
      refine x_iinc dX8_shareAll_30 rfl (by decide) ?_
      show JX _ _ _ _ _ _ _ _ _ _ _ [_, _] _ _
      refine x_goto (tgt := 2) dX8_shareAll_33 (by decide) ?_
      exact ih (i + 1) D (by omega) (by rw [es]; exact hr) (by rw [es]; exact hI) hX
    · have es : sAllN r (i + 1) = sSh (sAllN r i) i (r (29 + 11 * i)) := by
        show (if 0 ≤ sAllN r i (29 + 11 * i) then sSh (sAllN r i) i (sAllN r i (29 + 11 * i)) else sAllN r i) = _
        rw [k29, if_pos (by omega)]
      have hg2 : r (29 + 11 * i) = 0 ∨ r (29 + 11 * i) = 1 := by omega
      refine x_iload_n dX8_shareAll_2 rfl ?_
      refine x_aload_n dX8_shareAll_3 rfl ?_
      refine gf_RX8_7 dX8_shareAll_4 rfl (by assumption) ?_
      rw [m0]
      refine x_iconst dX8_shareAll_7 ?_
      refine x_iald dX8_shareAll_8 (by assumption) ⟨by omega, by omega⟩ ?_
      rw [hr, k1]
      refine x_ic_ge (tgt := 36) dX8_shareAll_9 (by decide) ⟨by omega, by omega⟩ ⟨by omega, by omega⟩ (fun h => absurd h (by omega)) (fun hb9 => ?_)
      refine x_aload_n dX8_shareAll_12 rfl ?_
      refine x_iload_n dX8_shareAll_13 rfl ?_
      refine c_RX8_92d dX8_shareAll_14 rfl (kX8_openGate hM0 hr0 (by omega) (by omega)) (by assumption) (Nat.le_of_ble_eq_true rfl) (Nat.le_of_ble_eq_true rfl) ⟨Nat.le_refl _, Nat.le_refl _⟩ ?_
      rw [k29]
      refine x_if_lt (tgt := 30) dX8_shareAll_17 (by decide) ⟨by omega, by omega⟩ (fun h => absurd h (by omega)) (fun hb17 => ?_)
      refine x_aload_n dX8_shareAll_20 rfl ?_
      refine x_iload_n dX8_shareAll_21 rfl ?_
      refine x_aload_n dX8_shareAll_22 rfl ?_
      refine x_iload_n dX8_shareAll_23 rfl ?_
      refine c_RX8_92d dX8_shareAll_24 rfl (kX8_openGate hM0 hr0 (by omega) (by omega)) (by assumption) (Nat.le_of_ble_eq_true rfl) (Nat.le_of_ble_eq_true rfl) ⟨Nat.le_refl _, Nat.le_refl _⟩ ?_
      rw [k29]
      refine c_RX8_95p dX8_shareAll_27 rfl (kX8_share hM0 hr0 hI ht (by omega) (by omega) hg2) (by assumption) (Nat.le_of_ble_eq_true rfl) (Nat.le_of_ble_eq_true rfl) ⟨Nat.le_refl _, Nat.le_refl _⟩ (fun D9 h9 => ?_)
      obtain ⟨g1, g2⟩ := h9
      refine x_iinc dX8_shareAll_30 rfl (by decide) ?_
      show JX _ _ _ _ _ _ _ _ _ _ _ [_, _] _ _
      refine x_goto (tgt := 2) dX8_shareAll_33 (by decide) ?_
      exact ih (i + 1) _ (by omega) (by rw [es]; exact g1) (by rw [es]; exact hI.share (by omega) (by omega) hg2) (fun x hx => by rw [g2 x hx]; exact hX x hx)
theorem kX8_shareAll {G : JG} {S : JS} {D : JD} {d : Nat} {M t : Int} {r : Int → Int} (hM : jMo S M) (hr : D (M + 1) = r) (hI : rIn t r) (ht : t ≤ 60000) : JM G yX8_shareAll cX8_shareAll 2 none (d + 5) (0, 0) S D [.inr (.inr (some M))] (jnP S (fun D2 => D2 (M + 1) = sAll r ∧ ∀ x : Int, x ≠ M + 1 → D2 x = D x)) := by
  have b1 := hI.1
  show JX _ _ _ _ _ _ _ _ _ _ _ [_, _] _ _
  refine x_iconst dX8_shareAll_0 ?_
  refine x_istore_n dX8_shareAll_1 (by decide) ?_
  show JX _ _ _ _ _ _ _ _ _ _ _ [_, _] _ _
  exact shareAll_loop hM hI ht (r 1).toNat 0 D (by omega) hr hI (fun _ _ => rfl)
