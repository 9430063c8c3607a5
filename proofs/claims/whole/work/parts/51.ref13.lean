/-! THE REFERENCE: acts. What an act answers is good -/
theorem zClose_good {t c : Int} {r : Int → Int} (hI : rIn t r) : zGood t (zClose c r) := by
  unfold zClose
  by_cases h : 0 ≤ c ∧ c < r 1
  · have hg := hI.gates c h.1 h.2
    rw [if_pos h]
    by_cases hv : r (29 + 11 * c) < 0
    · rw [if_pos hv]; exact zGood_n (by omega) (by omega)
    · rw [if_neg hv]; exact zGood_s (by omega) (by omega) ((hI.own (k := 29 + 11 * c) (v := -100000005) h.1 h.2 (by omega)).mono (by omega))
  · rw [if_neg h]; exact zGood_n (by omega) (by omega)
theorem zDoSluice_good {t c g : Int} {r : Int → Int} (hI : rIn t r) : zGood t (zDoSluice c g r) := by
  unfold zDoSluice
  by_cases h : (0 ≤ c ∧ c < r 1) ∧ (g = 0 ∨ g = 1)
  · rw [if_pos h]
    by_cases hv : r (29 + 11 * c) < 0
    · rw [if_pos hv]; exact zGood_s (by omega) (by omega) ((hI.share h.1.1 h.1.2 h.2).mono (by omega))
    · rw [if_neg hv]; exact zGood_n (by omega) (by omega)
  · rw [if_neg h]; exact zGood_n (by omega) (by omega)
theorem zDoOpen_good {t c g : Int} {r : Int → Int} (hI : rIn t r) : zGood t (zDoOpen c g r) := by
  unfold zDoOpen
  by_cases h : (0 ≤ c ∧ c < r 1) ∧ (g = 0 ∨ g = 1)
  · rw [if_pos h]
    by_cases hv : r (29 + 11 * c) < 0
    · rw [if_pos hv]
      by_cases hl : sLv r (100 + c) - sLv r (c + g) ≤ 2 ∧ sLv r (c + g) - sLv r (100 + c) ≤ 2
      · rw [if_pos hl]; exact zGood_s (by omega) (by omega) ((hI.own (k := 29 + 11 * c) (v := g) h.1.1 h.1.2 (by omega)).mono (by omega))
      · rw [if_neg hl]; exact zGood_n (by omega) (by omega)
    · rw [if_neg hv]; exact zGood_n (by omega) (by omega)
  · rw [if_neg h]; exact zGood_n (by omega) (by omega)
theorem zLoad_good {t k v : Int} {r : Int → Int} (hI : rIn t r) : zGood t (zLoad k v r) := by
  unfold zLoad
  by_cases h : 0 ≤ k ∧ k < r 2
  · rw [if_pos h]
    by_cases hv : v ≠ 0 ∧ -1000 ≤ v ∧ v ≤ 1000
    · rw [if_pos hv]
      by_cases hp : 100 ≤ r (71 + 8 * k)
      · rw [if_pos hp]; exact zGood_n (by omega) (by omega)
      · rw [if_neg hp]
        by_cases hw : 0 ≤ r (69 + 8 * k) + v ∧ v ≤ r (68 + 8 * k) - r (69 + 8 * k) - r (70 + 8 * k)
        · rw [if_pos hw]
          have hI2 := hI.load h.1 h.2 hw
          have e2 : rLoad k v r 2 = r 2 := by have b1 := hI.1; exact rup_ne (by omega)
          obtain ⟨bp, w0, w1, i0, i1, d0, d1⟩ := hI2.bw h.1 (by rw [e2]; exact h.2)
          exact zGood_s (by omega) (by omega) (hI2.mono (by omega))
        · rw [if_neg hw]; exact zGood_n (by omega) (by omega)
    · rw [if_neg hv]; exact zGood_n (by omega) (by omega)
  · rw [if_neg h]; exact zGood_n (by omega) (by omega)
theorem zPump_good {t k v : Int} {r : Int → Int} (hI : rIn t r) : zGood t (zPump k v r) := by
  unfold zPump
  by_cases h : 0 ≤ k ∧ k < r 2
  · rw [if_pos h]
    by_cases hv : v ≠ 0 ∧ -1000 ≤ v ∧ v ≤ 1000
    · rw [if_pos hv]
      by_cases hw : v ≤ r (wA (r (71 + 8 * k)) + 2) ∧ 0 ≤ r (70 + 8 * k) + v ∧ v ≤ r (68 + 8 * k) - r (69 + 8 * k) - r (70 + 8 * k)
      · rw [if_pos hw]
        have hI2 := hI.pump h.1 h.2 hv.2 hw
        have wb2 : 6 ≤ wA (r (71 + 8 * k)) := by
          have b1 := hI.1
          obtain ⟨bp, -⟩ := hI.bw h.1 h.2
          have bl := bp.lin hI 0
          unfold wA
          split <;> omega
        have e2 : rPump k v r 2 = r 2 := by unfold rPump; rw [rup_ne (by omega), rup_ne (by omega)]
        obtain ⟨bp, w0, w1, i0, i1, d0, d1⟩ := hI2.bw h.1 (by rw [e2]; exact h.2)
        exact zGood_s (by omega) (by omega) hI2
      · rw [if_neg hw]; exact zGood_n (by omega) (by omega)
    · rw [if_neg hv]; exact zGood_n (by omega) (by omega)
  · rw [if_neg h]; exact zGood_n (by omega) (by omega)
theorem zEnter_good {t k c : Int} {r : Int → Int} (hI : rIn t r) : zGood t (zEnter k c r) := by
  unfold zEnter
  by_cases h : (0 ≤ k ∧ k < r 2) ∧ (0 ≤ c ∧ c < r 1)
  · rw [if_pos h]
    obtain ⟨⟨k0, k1⟩, c0, c1⟩ := h
    have hgt := hI.gates c c0 c1
    by_cases hv : r (29 + 11 * c) < 0
    · rw [if_pos hv]; exact zGood_n (by omega) (by omega)
    · rw [if_neg hv]
      obtain ⟨g, hg⟩ : ∃ g, r (29 + 11 * c) = g := ⟨_, rfl⟩
      have g01 : g = 0 ∨ g = 1 := by omega
      rw [hg]
      by_cases hp : r (71 + 8 * k) ≠ c + g
      · rw [if_pos hp]; exact zGood_n (by omega) (by omega)
      · rw [if_neg hp]
        have hp' : r (71 + 8 * k) = c + g := Classical.byContradiction hp
        by_cases ha : gAgr r k
        · rw [if_pos ha]; exact zGood_n (by omega) (by omega)
        · rw [if_neg ha]
          by_cases hl : sLf r c < r (65 + 8 * k)
          · rw [if_pos hl]; exact zGood_n (by omega) (by omega)
          · rw [if_neg hl]
            by_cases hd : gDeep r k c g
            · rw [if_pos hd]; exact zGood_n (by omega) (by omega)
            · rw [if_neg hd]
              have b1 := hI.1
              have hI2 := hI.enter c0 c1 g01 k0 k1 hp' (by omega)
              have hnp : r (71 + 8 * k) ≠ 100 + c := by omega
              have e21 : rEnter k c g r 1 = r 1 := psd_in hI c0 c1 k0 k1 hnp 1 (by omega) (by omega) (by omega) (by omega) (by omega)
              have co := (hI2.2.2.1 c c0 (by rw [e21]; exact c1)).2
              unfold rCo at co
              have hle := sLf_le hI2 c
              exact zGood_s (by omega) (by omega) hI2
  · rw [if_neg h]; exact zGood_n (by omega) (by omega)
theorem zLeave_good {t c g : Int} {r : Int → Int} (hI : rIn t r) : zGood t (zLeave c g r) := by
  unfold zLeave
  by_cases h : (0 ≤ c ∧ c < r 1) ∧ (g = 0 ∨ g = 1)
  · rw [if_pos h]
    obtain ⟨⟨c0, c1⟩, hg⟩ := h
    by_cases ho : r (29 + 11 * c) ≠ g
    · rw [if_pos ho]; exact zGood_n (by omega) (by omega)
    · rw [if_neg ho]
      by_cases hn : r (161 + 13 * c) = 0
      · rw [if_pos hn]; exact zGood_n (by omega) (by omega)
      · rw [if_neg hn]
        by_cases ha : gAgr r (sNext r c g)
        · rw [if_pos ha]; exact zGood_n (by omega) (by omega)
        · rw [if_neg ha]
          by_cases hd : gDeep r (sNext r c g) c g
          · rw [if_pos hd]; exact zGood_n (by omega) (by omega)
          · rw [if_neg hd]
            have b1 := hI.1
            obtain ⟨k0, k1, hk⟩ := hI.next (g := g) c0 c1 hn
            exact zGood_s (by omega) (by omega) (hI.leave c0 c1 hg hn rfl)
  · rw [if_neg h]; exact zGood_n (by omega) (by omega)
theorem kX8_load {G : JG} {S : JS} {D : JD} {d : Nat} {M n t : Int} {hs : Int → Int → Int} {r : Int → Int} {k v : Int} (hM : jMo S M) (hr : D (M + 1) = r) (hI : rIn t r) (ht : t + 1 ≤ 60000) (hm : jMh D M n hs) (rk : i32 k) (rv : i32 v) : JM G yX8_load cX8_load 3 (some .int) (d + 7) (0, 0) S D [.inr (.inr (some M)), .inl k, .inl v] (jrP S (jRf D M n hs r (zLoad k v r))) := by
  have hM0 := hM
  obtain ⟨mk, m0, m1, m2, m4, m5, m8, m12, y1, l1, y2, l2, y3, l3, y4, l4, y5, l5, y6, l6, y7, l7⟩ := id hM
  have hr0 := hr
  show JX _ _ _ _ _ _ _ _ _ _ _ [_, _, _] _ _
  refine x_aload_n dX8_load_0 rfl ?_
  refine c_RX8_53p dX8_load_1 rfl (kX8_begin hM0 hr0) (by assumption) (Nat.le_of_ble_eq_true rfl) (Nat.le_of_ble_eq_true rfl) ⟨Nat.le_refl _, Nat.le_refl _⟩ (fun D1 h1 => ?_)
  obtain ⟨hsc, bx⟩ := h1
  have hr1 : D1 (M + 1) = r := by rw [bx _ (by omega)]; exact hr
  have hm1 : jMh D1 M n hs := hm.frame (by rw [bx M (by omega)]) (bx _ (by omega))
  refine x_aload_n dX8_load_4 rfl ?_
  refine x_aload_n dX8_load_5 rfl ?_
  refine x_iload_n dX8_load_6 rfl ?_
  refine x_iload_n dX8_load_7 rfl ?_
  refine c_RX8_141p dX8_load_8 rfl (kX8_doLoad hM0 hr1 hI (by omega) rk rv) (by assumption) (Nat.le_of_ble_eq_true rfl) (Nat.le_of_ble_eq_true rfl) ⟨Nat.le_refl _, Nat.le_refl _⟩ (fun w2 D2 h2 => ?_)
  obtain ⟨hw2, h2y⟩ := id h2
  subst hw2
  refine c_RX8_110p dX8_load_11 rfl (kX8_doneZ (z := zLoad k v r) hM0 hm1 hsc ht h2 (zLoad_good hI)) (by assumption) (Nat.le_of_ble_eq_true rfl) (Nat.le_of_ble_eq_true rfl) ⟨Nat.le_refl _, Nat.le_refl _⟩ (fun w9 D9 h9 => ?_)
  have hw9 := h9.1
  subst hw9
  exact x_ireturn dX8_load_14 rfl rfl ⟨Nat.le_refl _, Nat.le_refl _⟩ ⟨rfl, _, rfl, h9.from bx⟩
theorem kX8_pump {G : JG} {S : JS} {D : JD} {d : Nat} {M n t : Int} {hs : Int → Int → Int} {r : Int → Int} {k v : Int} (hM : jMo S M) (hr : D (M + 1) = r) (hI : rIn t r) (ht : t + 1 ≤ 60000) (hm : jMh D M n hs) (rk : i32 k) (rv : i32 v) : JM G yX8_pump cX8_pump 3 (some .int) (d + 7) (0, 0) S D [.inr (.inr (some M)), .inl k, .inl v] (jrP S (jRf D M n hs r (zPump k v r))) := by
  have hM0 := hM
  obtain ⟨mk, m0, m1, m2, m4, m5, m8, m12, y1, l1, y2, l2, y3, l3, y4, l4, y5, l5, y6, l6, y7, l7⟩ := id hM
  have hr0 := hr
  show JX _ _ _ _ _ _ _ _ _ _ _ [_, _, _] _ _
  refine x_aload_n dX8_pump_0 rfl ?_
  refine c_RX8_53p dX8_pump_1 rfl (kX8_begin hM0 hr0) (by assumption) (Nat.le_of_ble_eq_true rfl) (Nat.le_of_ble_eq_true rfl) ⟨Nat.le_refl _, Nat.le_refl _⟩ (fun D1 h1 => ?_)
  obtain ⟨hsc, bx⟩ := h1
  have hr1 : D1 (M + 1) = r := by rw [bx _ (by omega)]; exact hr
  have hm1 : jMh D1 M n hs := hm.frame (by rw [bx M (by omega)]) (bx _ (by omega))
  refine x_aload_n dX8_pump_4 rfl ?_
  refine x_aload_n dX8_pump_5 rfl ?_
  refine x_iload_n dX8_pump_6 rfl ?_
  refine x_iload_n dX8_pump_7 rfl ?_
  refine c_RX8_144p dX8_pump_8 rfl (kX8_doPump hM0 hr1 hI (by omega) ht rk rv) (by assumption) (Nat.le_of_ble_eq_true rfl) (Nat.le_of_ble_eq_true rfl) ⟨Nat.le_refl _, Nat.le_refl _⟩ (fun w2 D2 h2 => ?_)
  obtain ⟨hw2, h2y⟩ := id h2
  subst hw2
  refine c_RX8_110p dX8_pump_11 rfl (kX8_doneZ (z := zPump k v r) hM0 hm1 hsc ht h2 (zPump_good hI)) (by assumption) (Nat.le_of_ble_eq_true rfl) (Nat.le_of_ble_eq_true rfl) ⟨Nat.le_refl _, Nat.le_refl _⟩ (fun w9 D9 h9 => ?_)
  have hw9 := h9.1
  subst hw9
  exact x_ireturn dX8_pump_14 rfl rfl ⟨Nat.le_refl _, Nat.le_refl _⟩ ⟨rfl, _, rfl, h9.from bx⟩
theorem kX8_enter {G : JG} {S : JS} {D : JD} {d : Nat} {M n t : Int} {hs : Int → Int → Int} {r : Int → Int} {k c : Int} (hM : jMo S M) (hr : D (M + 1) = r) (hI : rIn t r) (ht : t + 1 ≤ 60000) (hm : jMh D M n hs) (rk : i32 k) (rc : i32 c) : JM G yX8_enter cX8_enter 3 (some .int) (d + 7) (0, 0) S D [.inr (.inr (some M)), .inl k, .inl c] (jrP S (jRf D M n hs r (zEnter k c r))) := by
  have hM0 := hM
  obtain ⟨mk, m0, m1, m2, m4, m5, m8, m12, y1, l1, y2, l2, y3, l3, y4, l4, y5, l5, y6, l6, y7, l7⟩ := id hM
  have hr0 := hr
  show JX _ _ _ _ _ _ _ _ _ _ _ [_, _, _] _ _
  refine x_aload_n dX8_enter_0 rfl ?_
  refine c_RX8_53p dX8_enter_1 rfl (kX8_begin hM0 hr0) (by assumption) (Nat.le_of_ble_eq_true rfl) (Nat.le_of_ble_eq_true rfl) ⟨Nat.le_refl _, Nat.le_refl _⟩ (fun D1 h1 => ?_)
  obtain ⟨hsc, bx⟩ := h1
  have hr1 : D1 (M + 1) = r := by rw [bx _ (by omega)]; exact hr
  have hm1 : jMh D1 M n hs := hm.frame (by rw [bx M (by omega)]) (bx _ (by omega))
  refine x_aload_n dX8_enter_4 rfl ?_
  refine x_aload_n dX8_enter_5 rfl ?_
  refine x_iload_n dX8_enter_6 rfl ?_
  refine x_iload_n dX8_enter_7 rfl ?_
  refine c_RX8_174p dX8_enter_8 rfl (kX8_doEnter hM0 hr1 hI (by omega) ht rk rc) (by assumption) (Nat.le_of_ble_eq_true rfl) (Nat.le_of_ble_eq_true rfl) ⟨Nat.le_refl _, Nat.le_refl _⟩ (fun w2 D2 h2 => ?_)
  obtain ⟨hw2, h2y⟩ := id h2
  subst hw2
  refine c_RX8_110p dX8_enter_11 rfl (kX8_doneZ (z := zEnter k c r) hM0 hm1 hsc ht h2 (zEnter_good hI)) (by assumption) (Nat.le_of_ble_eq_true rfl) (Nat.le_of_ble_eq_true rfl) ⟨Nat.le_refl _, Nat.le_refl _⟩ (fun w9 D9 h9 => ?_)
  have hw9 := h9.1
  subst hw9
  exact x_ireturn dX8_enter_14 rfl rfl ⟨Nat.le_refl _, Nat.le_refl _⟩ ⟨rfl, _, rfl, h9.from bx⟩
theorem kX8_leave {G : JG} {S : JS} {D : JD} {d : Nat} {M n t : Int} {hs : Int → Int → Int} {r : Int → Int} {c g : Int} (hM : jMo S M) (hr : D (M + 1) = r) (hI : rIn t r) (ht : t + 1 ≤ 60000) (hm : jMh D M n hs) (rc : i32 c) (rg : i32 g) : JM G yX8_leave cX8_leave 3 (some .int) (d + 7) (0, 0) S D [.inr (.inr (some M)), .inl c, .inl g] (jrP S (jRf D M n hs r (zLeave c g r))) := by
  have hM0 := hM
  obtain ⟨mk, m0, m1, m2, m4, m5, m8, m12, y1, l1, y2, l2, y3, l3, y4, l4, y5, l5, y6, l6, y7, l7⟩ := id hM
  have hr0 := hr
  show JX _ _ _ _ _ _ _ _ _ _ _ [_, _, _] _ _
  refine x_aload_n dX8_leave_0 rfl ?_
  refine c_RX8_53p dX8_leave_1 rfl (kX8_begin hM0 hr0) (by assumption) (Nat.le_of_ble_eq_true rfl) (Nat.le_of_ble_eq_true rfl) ⟨Nat.le_refl _, Nat.le_refl _⟩ (fun D1 h1 => ?_)
  obtain ⟨hsc, bx⟩ := h1
  have hr1 : D1 (M + 1) = r := by rw [bx _ (by omega)]; exact hr
  have hm1 : jMh D1 M n hs := hm.frame (by rw [bx M (by omega)]) (bx _ (by omega))
  refine x_aload_n dX8_leave_4 rfl ?_
  refine x_aload_n dX8_leave_5 rfl ?_
  refine x_iload_n dX8_leave_6 rfl ?_
  refine x_iload_n dX8_leave_7 rfl ?_
  refine c_RX8_177p dX8_leave_8 rfl (kX8_doLeave hM0 hr1 hI (by omega) rc rg) (by assumption) (Nat.le_of_ble_eq_true rfl) (Nat.le_of_ble_eq_true rfl) ⟨Nat.le_refl _, Nat.le_refl _⟩ (fun w2 D2 h2 => ?_)
  obtain ⟨hw2, h2y⟩ := id h2
  subst hw2
  refine c_RX8_110p dX8_leave_11 rfl (kX8_doneZ (z := zLeave c g r) hM0 hm1 hsc ht h2 (zLeave_good hI)) (by assumption) (Nat.le_of_ble_eq_true rfl) (Nat.le_of_ble_eq_true rfl) ⟨Nat.le_refl _, Nat.le_refl _⟩ (fun w9 D9 h9 => ?_)
  have hw9 := h9.1
  subst hw9
  exact x_ireturn dX8_leave_14 rfl rfl ⟨Nat.le_refl _, Nat.le_refl _⟩ ⟨rfl, _, rfl, h9.from bx⟩
theorem kX8_close {G : JG} {S : JS} {D : JD} {d : Nat} {M n t : Int} {hs : Int → Int → Int} {r : Int → Int} {c : Int} (hM : jMo S M) (hr : D (M + 1) = r) (hI : rIn t r) (ht : t + 1 ≤ 60000) (hm : jMh D M n hs) (rc : i32 c) : JM G yX8_close cX8_close 2 (some .int) (d + 7) (0, 0) S D [.inr (.inr (some M)), .inl c] (jrP S (jRf D M n hs r (zClose c r))) := by
  have hM0 := hM
  obtain ⟨mk, m0, m1, m2, m4, m5, m8, m12, y1, l1, y2, l2, y3, l3, y4, l4, y5, l5, y6, l6, y7, l7⟩ := id hM
  have hr0 := hr
  show JX _ _ _ _ _ _ _ _ _ _ _ [_, _] _ _
  refine x_aload_n dX8_close_0 rfl ?_
  refine c_RX8_53p dX8_close_1 rfl (kX8_begin hM0 hr0) (by assumption) (Nat.le_of_ble_eq_true rfl) (Nat.le_of_ble_eq_true rfl) ⟨Nat.le_refl _, Nat.le_refl _⟩ (fun D1 h1 => ?_)
  obtain ⟨hsc, bx⟩ := h1
  have hr1 : D1 (M + 1) = r := by rw [bx _ (by omega)]; exact hr
  have hm1 : jMh D1 M n hs := hm.frame (by rw [bx M (by omega)]) (bx _ (by omega))
  refine x_aload_n dX8_close_4 rfl ?_
  refine x_aload_n dX8_close_5 rfl ?_
  refine x_iload_n dX8_close_6 rfl ?_
  refine c_RX8_156p dX8_close_7 rfl (kX8_doClose hM0 hr1 hI (by omega) rc) (by assumption) (Nat.le_of_ble_eq_true rfl) (Nat.le_of_ble_eq_true rfl) ⟨Nat.le_refl _, Nat.le_refl _⟩ (fun w2 D2 h2 => ?_)
  obtain ⟨hw2, h2y⟩ := id h2
  subst hw2
  refine c_RX8_110p dX8_close_10 rfl (kX8_doneZ (z := zClose c r) hM0 hm1 hsc ht h2 (zClose_good hI)) (by assumption) (Nat.le_of_ble_eq_true rfl) (Nat.le_of_ble_eq_true rfl) ⟨Nat.le_refl _, Nat.le_refl _⟩ (fun w9 D9 h9 => ?_)
  have hw9 := h9.1
  subst hw9
  exact x_ireturn dX8_close_13 rfl rfl ⟨Nat.le_refl _, Nat.le_refl _⟩ ⟨rfl, _, rfl, h9.from bx⟩
theorem kX8_leveled_n {G : JG} {S : JS} {D : JD} {d : Nat} {D1 : JD} {M n t : Int} {hs : Int → Int → Int} {r : Int → Int} {c : Int} {v e : Int} (hM : jMo S M) (hm : jMh D1 M n hs) (hsc : ∀ k : Int, 0 ≤ k → k < 213 → D1 (M + 2) k = r k) (ht : t + 1 ≤ 60000) (hd : jDo D1 M r (v, none, e) (.inl v) D) (hv : v ≤ -100000001 ∧ -100000005 ≤ v) : JM G yX8_leveled cX8_leveled 3 (some .int) (d + 7) (0, 0) S D [.inr (.inr (some M)), .inl v, .inl c] (jrP S (jRf D1 M n hs r (v, none, e))) := by
  have mk := hM.1
  show JX _ _ _ _ _ _ _ _ _ _ _ [_, _, _] _ _
  refine x_aload_n dX8_leveled_0 rfl ?_
  refine x_iload_n dX8_leveled_1 rfl ?_
  refine c_RX8_110p dX8_leveled_2 rfl (kX8_doneZ (z := (v, none, e)) hM hm hsc ht hd hv) (by assumption) (Nat.le_of_ble_eq_true rfl) (Nat.le_of_ble_eq_true rfl) ⟨Nat.le_refl _, Nat.le_refl _⟩ (fun w9 D9 h9 => ?_)
  have hw9 := h9.1
  subst hw9
  refine x_if_ne (tgt := 19) dX8_leveled_5 (by decide) ⟨by omega, by omega⟩ (fun hb5 => ?_) (fun h => (h (by omega)).elim)
  refine x_iload_n dX8_leveled_19 rfl ?_
  exact x_ireturn dX8_leveled_20 rfl rfl ⟨Nat.le_refl _, Nat.le_refl _⟩ ⟨rfl, _, rfl, h9⟩
theorem kX8_leveled_s {G : JG} {S : JS} {D : JD} {d : Nat} {D1 : JD} {M n t : Int} {hs : Int → Int → Int} {r : Int → Int} {c : Int} {r2 : Int → Int} (hM : jMo S M) (hm : jMh D1 M n hs) (hsc : ∀ k : Int, 0 ≤ k → k < 213 → D1 (M + 2) k = r k) (ht : t + 1 ≤ 60000) (hd : jDo D1 M r (0, some r2, 0) (.inl 0) D) (hI : rIn (t + 1) r2) (c0 : 0 ≤ c) (c1 : c < r2 1) : JM G yX8_leveled cX8_leveled 3 (some .int) (d + 7) (0, 0) S D [.inr (.inr (some M)), .inl 0, .inl c] (jrP S (jRf D1 M n hs r (sLv (sAll r2) (100 + c), some r2, 0))) := by
  have mk := hM.1
  have b1 := hI.1
  have hIa := hI.all
  have e1 : sAll r2 1 = r2 1 := hI.keep (by omega)
  have hp : rPl (sAll r2) (100 + c) := Or.inr ⟨by omega, by omega⟩
  obtain ⟨wo, wm, -⟩ := hIa.wat ht hp
  have dp := hIa.dp wo wm
  show JX _ _ _ _ _ _ _ _ _ _ _ [_, _, _] _ _
  refine x_aload_n dX8_leveled_0 rfl ?_
  refine x_iload_n dX8_leveled_1 rfl ?_
  refine c_RX8_110p dX8_leveled_2 rfl (kX8_doneZ (z := (0, some r2, 0)) hM hm hsc ht hd (zGood_s (by omega) (by omega) hI)) (by assumption) (Nat.le_of_ble_eq_true rfl) (Nat.le_of_ble_eq_true rfl) ⟨Nat.le_refl _, Nat.le_refl _⟩ (fun w9 D9 h9 => ?_)
  have hw9 := h9.1
  subst hw9
  obtain ⟨-, q2, q3, q1, q4, q5⟩ := h9
  refine x_if_ne (tgt := 19) dX8_leveled_5 (by decide) ⟨by omega, by omega⟩ (fun h => absurd h (by omega)) (fun hb5 => ?_)
  refine x_aload_n dX8_leveled_8 rfl ?_
  refine x_bipush dX8_leveled_9 (by decide) ?_
  refine x_iload_n dX8_leveled_11 rfl ?_
  refine x_iadd dX8_leveled_12 ?_
  refine c_RX8_126d dX8_leveled_13 rfl (kX8_level hM q1 hIa ht hp) (by assumption) (Nat.le_of_ble_eq_true rfl) (Nat.le_of_ble_eq_true rfl) ⟨Nat.le_refl _, Nat.le_refl _⟩ ?_
  refine x_goto (tgt := 20) dX8_leveled_16 (by decide) ?_
  exact x_ireturn dX8_leveled_20 rfl rfl ⟨Nat.le_refl _, Nat.le_refl _⟩ ⟨rfl, _, rfl, rfl, q2, q3, q1, q4, q5⟩
theorem levSluice {G : JG} {S : JS} {D D1 : JD} {d : Nat} {M n t : Int} {hs : Int → Int → Int} {r : Int → Int} {c g : Int} (hM : jMo S M) (hm : jMh D1 M n hs) (hsc : ∀ k : Int, 0 ≤ k → k < 213 → D1 (M + 2) k = r k) (ht : t + 1 ≤ 60000) (hI : rIn t r) (hd : jDo D1 M r (zDoSluice c g r) (.inl (zDoSluice c g r).1) D) : JM G yX8_leveled cX8_leveled 3 (some .int) (d + 7) (0, 0) S D [.inr (.inr (some M)), .inl (zDoSluice c g r).1, .inl c] (jrP S (jRf D1 M n hs r (zSluice c g r))) := by
  have hgd := zDoSluice_good (c := c) (g := g) hI
  have b1 := hI.1
  unfold zDoSluice at hd hgd ⊢
  unfold zSluice
  by_cases h : (0 ≤ c ∧ c < r 1) ∧ (g = 0 ∨ g = 1)
  · rw [if_pos h] at hd hgd ⊢
    rw [if_pos h]
    by_cases hv : r (29 + 11 * c) < 0
    · rw [if_pos hv] at hd hgd ⊢
      rw [if_pos hv]
      exact kX8_leveled_s hM hm hsc ht hd hgd.2.2.2 h.1.1 (by rw [sSh_o (by omega) (by omega)]; exact h.1.2)
    · rw [if_neg hv] at hd hgd ⊢
      rw [if_neg hv]
      exact kX8_leveled_n hM hm hsc ht hd hgd
  · rw [if_neg h] at hd hgd ⊢
    rw [if_neg h]
    exact kX8_leveled_n hM hm hsc ht hd hgd
theorem kX8_sluice {G : JG} {S : JS} {D : JD} {d : Nat} {M n t : Int} {hs : Int → Int → Int} {r : Int → Int} {c g : Int} (hM : jMo S M) (hr : D (M + 1) = r) (hI : rIn t r) (ht : t + 1 ≤ 60000) (hm : jMh D M n hs) (rc : i32 c) (rg : i32 g) : JM G yX8_sluice cX8_sluice 3 (some .int) (d + 8) (0, 0) S D [.inr (.inr (some M)), .inl c, .inl g] (jrP S (jRf D M n hs r (zSluice c g r))) := by
  have hM0 := hM
  obtain ⟨mk, m0, m1, m2, m4, m5, m8, m12, y1, l1, y2, l2, y3, l3, y4, l4, y5, l5, y6, l6, y7, l7⟩ := id hM
  have hr0 := hr
  show JX _ _ _ _ _ _ _ _ _ _ _ [_, _, _] _ _
  refine x_aload_n dX8_sluice_0 rfl ?_
  refine c_RX8_53p dX8_sluice_1 rfl (kX8_begin hM0 hr0) (by assumption) (Nat.le_of_ble_eq_true rfl) (Nat.le_of_ble_eq_true rfl) ⟨Nat.le_refl _, Nat.le_refl _⟩ (fun D1 h1 => ?_)
  obtain ⟨hsc, bx⟩ := h1
  have hr1 : D1 (M + 1) = r := by rw [bx _ (by omega)]; exact hr
  have hm1 : jMh D1 M n hs := hm.frame (by rw [bx M (by omega)]) (bx _ (by omega))
  refine x_aload_n dX8_sluice_4 rfl ?_
  refine x_aload_n dX8_sluice_5 rfl ?_
  refine x_iload_n dX8_sluice_6 rfl ?_
  refine x_iload_n dX8_sluice_7 rfl ?_
  refine c_RX8_147p dX8_sluice_8 rfl (kX8_doSluice hM0 hr1 hI (by omega) rc rg) (by assumption) (Nat.le_of_ble_eq_true rfl) (Nat.le_of_ble_eq_true rfl) ⟨Nat.le_refl _, Nat.le_refl _⟩ (fun w2 D2 h2 => ?_)
  obtain ⟨hw2, h2y⟩ := id h2
  subst hw2
  refine x_iload_n dX8_sluice_11 rfl ?_
  refine c_RX8_150p dX8_sluice_12 rfl (levSluice hM0 hm1 hsc ht hI h2) (by assumption) (Nat.le_of_ble_eq_true rfl) (Nat.le_of_ble_eq_true rfl) ⟨Nat.le_refl _, Nat.le_refl _⟩ (fun w9 D9 h9 => ?_)
  have hw9 := h9.1
  subst hw9
  exact x_ireturn dX8_sluice_15 rfl rfl ⟨Nat.le_refl _, Nat.le_refl _⟩ ⟨rfl, _, rfl, h9.from bx⟩
theorem levOpen {G : JG} {S : JS} {D D1 : JD} {d : Nat} {M n t : Int} {hs : Int → Int → Int} {r : Int → Int} {c g : Int} (hM : jMo S M) (hm : jMh D1 M n hs) (hsc : ∀ k : Int, 0 ≤ k → k < 213 → D1 (M + 2) k = r k) (ht : t + 1 ≤ 60000) (hI : rIn t r) (hd : jDo D1 M r (zDoOpen c g r) (.inl (zDoOpen c g r).1) D) : JM G yX8_leveled cX8_leveled 3 (some .int) (d + 7) (0, 0) S D [.inr (.inr (some M)), .inl (zDoOpen c g r).1, .inl c] (jrP S (jRf D1 M n hs r (zOpen c g r))) := by
  have hgd := zDoOpen_good (c := c) (g := g) hI
  have b1 := hI.1
  unfold zDoOpen at hd hgd ⊢
  unfold zOpen
  by_cases h : (0 ≤ c ∧ c < r 1) ∧ (g = 0 ∨ g = 1)
  · rw [if_pos h] at hd hgd ⊢
    rw [if_pos h]
    by_cases hv : r (29 + 11 * c) < 0
    · rw [if_pos hv] at hd hgd ⊢
      rw [if_pos hv]
      by_cases hl : sLv r (100 + c) - sLv r (c + g) ≤ 2 ∧ sLv r (c + g) - sLv r (100 + c) ≤ 2
      · rw [if_pos hl] at hd hgd ⊢
        rw [if_pos hl]
        exact kX8_leveled_s hM hm hsc ht hd hgd.2.2.2 h.1.1 (by rw [rup_ne (by omega)]; exact h.1.2)
      · rw [if_neg hl] at hd hgd ⊢
        rw [if_neg hl]
        exact kX8_leveled_n hM hm hsc ht hd hgd
    · rw [if_neg hv] at hd hgd ⊢
      rw [if_neg hv]
      exact kX8_leveled_n hM hm hsc ht hd hgd
  · rw [if_neg h] at hd hgd ⊢
    rw [if_neg h]
    exact kX8_leveled_n hM hm hsc ht hd hgd
theorem kX8_open {G : JG} {S : JS} {D : JD} {d : Nat} {M n t : Int} {hs : Int → Int → Int} {r : Int → Int} {c g : Int} (hM : jMo S M) (hr : D (M + 1) = r) (hI : rIn t r) (ht : t + 1 ≤ 60000) (hm : jMh D M n hs) (rc : i32 c) (rg : i32 g) : JM G yX8_open cX8_open 3 (some .int) (d + 8) (0, 0) S D [.inr (.inr (some M)), .inl c, .inl g] (jrP S (jRf D M n hs r (zOpen c g r))) := by
  have hM0 := hM
  obtain ⟨mk, m0, m1, m2, m4, m5, m8, m12, y1, l1, y2, l2, y3, l3, y4, l4, y5, l5, y6, l6, y7, l7⟩ := id hM
  have hr0 := hr
  show JX _ _ _ _ _ _ _ _ _ _ _ [_, _, _] _ _
  refine x_aload_n dX8_open_0 rfl ?_
  refine c_RX8_53p dX8_open_1 rfl (kX8_begin hM0 hr0) (by assumption) (Nat.le_of_ble_eq_true rfl) (Nat.le_of_ble_eq_true rfl) ⟨Nat.le_refl _, Nat.le_refl _⟩ (fun D1 h1 => ?_)
  obtain ⟨hsc, bx⟩ := h1
  have hr1 : D1 (M + 1) = r := by rw [bx _ (by omega)]; exact hr
  have hm1 : jMh D1 M n hs := hm.frame (by rw [bx M (by omega)]) (bx _ (by omega))
  refine x_aload_n dX8_open_4 rfl ?_
  refine x_aload_n dX8_open_5 rfl ?_
  refine x_iload_n dX8_open_6 rfl ?_
  refine x_iload_n dX8_open_7 rfl ?_
  refine c_RX8_153p dX8_open_8 rfl (kX8_doOpen hM0 hr1 hI (by omega) rc rg) (by assumption) (Nat.le_of_ble_eq_true rfl) (Nat.le_of_ble_eq_true rfl) ⟨Nat.le_refl _, Nat.le_refl _⟩ (fun w2 D2 h2 => ?_)
  obtain ⟨hw2, h2y⟩ := id h2
  subst hw2
  refine x_iload_n dX8_open_11 rfl ?_
  refine c_RX8_150p dX8_open_12 rfl (levOpen hM0 hm1 hsc ht hI h2) (by assumption) (Nat.le_of_ble_eq_true rfl) (Nat.le_of_ble_eq_true rfl) ⟨Nat.le_refl _, Nat.le_refl _⟩ (fun w9 D9 h9 => ?_)
  have hw9 := h9.1
  subst hw9
  exact x_ireturn dX8_open_15 rfl rfl ⟨Nat.le_refl _, Nat.le_refl _⟩ ⟨rfl, _, rfl, h9.from bx⟩
theorem rIn.clrI {t v : Int} {r : Int → Int} (hI : rIn t r) (hv : 0 ≤ v ∧ v ≤ 50) : rIn t (rup r 3 v) := by
  have b1 := hI.1
  refine hI.top (by omega) (fun j hj => rup_ne (by omega)) ?_
  rw [rup_eq, rup_ne (by omega), rup_ne (by omega)]
  omega
theorem kX8_setClearance_e {G : JG} {S : JS} {D : JD} {d : Nat} {M n t : Int} {hs : Int → Int → Int} {r : Int → Int} {v : Int} (hM : jMo S M) (hr : D (M + 1) = r) (hI : rIn t r) (ht : t + 1 ≤ 60000) (hm : jMh D M n hs) (rv : i32 v) (h : ¬ (0 ≤ v ∧ v ≤ 50)) : JM G yX8_setClearance cX8_setClearance 3 (some .int) (d + 7) (0, 0) S D [.inr (.inr (some M)), .inl v] (jrP S (jRf D M n hs r (-100000002, none, 0))) := by
  have hM0 := hM
  obtain ⟨mk, m0, m1, m2, m4, m5, m8, m12, y1, l1, y2, l2, y3, l3, y4, l4, y5, l5, y6, l6, y7, l7⟩ := id hM
  have hr0 := hr
  have b1 := hI.1
  show JX _ _ _ _ _ _ _ _ _ _ _ [_, _, _] _ _
  refine x_iload_n dX8_setClearance_0 rfl ?_
  refine x_iconst dX8_setClearance_1 ?_
  refine x_bipush dX8_setClearance_2 (by decide) ?_
  refine c_RX8_49d dX8_setClearance_4 rfl (kX8_in rv ⟨by omega, by omega⟩ ⟨by omega, by omega⟩) (Nat.le_of_ble_eq_true rfl) (Nat.le_of_ble_eq_true rfl) ⟨Nat.le_refl _, Nat.le_refl _⟩ ?_
  refine x_if_ne (tgt := 13) dX8_setClearance_7 (by decide) ⟨by split <;> omega, by split <;> omega⟩ (fun h => absurd h (by omega)) (fun hb7 => ?_)
  refine x_ldc (e := -100000002) dX8_setClearance_10 ct_RX8_104 (by decide) ?_
  exact x_ireturn dX8_setClearance_12 rfl rfl ⟨Nat.le_refl _, Nat.le_refl _⟩ ⟨rfl, _, rfl, jRf_none hr hm⟩
theorem kX8_setClearance_y {G : JG} {S : JS} {D : JD} {d : Nat} {M n t : Int} {hs : Int → Int → Int} {r : Int → Int} {v : Int} (hM : jMo S M) (hr : D (M + 1) = r) (hI : rIn t r) (ht : t + 1 ≤ 60000) (hm : jMh D M n hs) (rv : i32 v) (h : 0 ≤ v ∧ v ≤ 50) : JM G yX8_setClearance cX8_setClearance 3 (some .int) (d + 7) (0, 0) S D [.inr (.inr (some M)), .inl v] (jrP S (jRf D M n hs r (r 3, some (rup r 3 v), 0))) := by
  have hM0 := hM
  obtain ⟨mk, m0, m1, m2, m4, m5, m8, m12, y1, l1, y2, l2, y3, l3, y4, l4, y5, l5, y6, l6, y7, l7⟩ := id hM
  have hr0 := hr
  have b1 := hI.1
  show JX _ _ _ _ _ _ _ _ _ _ _ [_, _, _] _ _
  refine x_iload_n dX8_setClearance_0 rfl ?_
  refine x_iconst dX8_setClearance_1 ?_
  refine x_bipush dX8_setClearance_2 (by decide) ?_
  refine c_RX8_49d dX8_setClearance_4 rfl (kX8_in rv ⟨by omega, by omega⟩ ⟨by omega, by omega⟩) (Nat.le_of_ble_eq_true rfl) (Nat.le_of_ble_eq_true rfl) ⟨Nat.le_refl _, Nat.le_refl _⟩ ?_
  refine x_if_ne (tgt := 13) dX8_setClearance_7 (by decide) ⟨by split <;> omega, by split <;> omega⟩ (fun hb7 => ?_) (fun h => (h (by omega)).elim)
  refine x_aload_n dX8_setClearance_13 rfl ?_
  refine c_RX8_53p dX8_setClearance_14 rfl (kX8_begin hM0 hr0) (by assumption) (Nat.le_of_ble_eq_true rfl) (Nat.le_of_ble_eq_true rfl) ⟨Nat.le_refl _, Nat.le_refl _⟩ (fun D1 h1 => ?_)
  obtain ⟨hsc, bx⟩ := h1
  have hr1 : D1 (M + 1) = r := by rw [bx _ (by omega)]; exact hr
  have hm1 : jMh D1 M n hs := hm.frame (by rw [bx M (by omega)]) (bx _ (by omega))
  refine x_aload_n dX8_setClearance_17 rfl ?_
  refine gf_RX8_7 dX8_setClearance_18 rfl (by assumption) ?_
  rw [m0]
  refine x_iconst dX8_setClearance_21 ?_
  refine x_iald dX8_setClearance_22 (by assumption) ⟨by omega, by omega⟩ ?_
  rw [hr1]
  refine x_istore_n dX8_setClearance_23 (by decide) ?_
  show JX _ _ _ _ _ _ _ _ _ _ _ [_, _, _] _ _
  refine x_aload_n dX8_setClearance_24 rfl ?_
  refine gf_RX8_7 dX8_setClearance_25 rfl (by assumption) ?_
  rw [m0]
  refine x_iconst dX8_setClearance_28 ?_
  refine x_iload_n dX8_setClearance_29 rfl ?_
  refine x_iast dX8_setClearance_30 (by assumption) ⟨by omega, by omega⟩ ?_
  refine x_aload_n dX8_setClearance_31 rfl ?_
  refine x_iload_n dX8_setClearance_32 rfl ?_
  refine c_RX8_110p dX8_setClearance_33 rfl (kX8_doneZ (z := (r 3, some (rup r 3 v), 0)) hM0 hm1 hsc ht (jDo_some hr1) (zGood_s (by omega) (by omega) ((hI.clrI h).mono (by omega)))) (by assumption) (Nat.le_of_ble_eq_true rfl) (Nat.le_of_ble_eq_true rfl) ⟨Nat.le_refl _, Nat.le_refl _⟩ (fun w9 D9 h9 => ?_)
  have hw9 := h9.1
  subst hw9
  exact x_ireturn dX8_setClearance_36 rfl rfl ⟨Nat.le_refl _, Nat.le_refl _⟩ ⟨rfl, _, rfl, h9.from bx⟩
theorem kX8_setClearance {G : JG} {S : JS} {D : JD} {d : Nat} {M n t : Int} {hs : Int → Int → Int} {r : Int → Int} {v : Int} (hM : jMo S M) (hr : D (M + 1) = r) (hI : rIn t r) (ht : t + 1 ≤ 60000) (hm : jMh D M n hs) (rv : i32 v) : JM G yX8_setClearance cX8_setClearance 3 (some .int) (d + 7) (0, 0) S D [.inr (.inr (some M)), .inl v] (jrP S (jRf D M n hs r (zSetClearance v r))) := by
  unfold zSetClearance
  by_cases h : 0 ≤ v ∧ v ≤ 50
  · rw [if_pos h]; exact kX8_setClearance_y hM hr hI ht hm rv h
  · rw [if_neg h]; exact kX8_setClearance_e hM hr hI ht hm rv h
theorem kX8_setSill_u {G : JG} {S : JS} {D : JD} {d : Nat} {M n t : Int} {hs : Int → Int → Int} {r : Int → Int} {c g v : Int} (hM : jMo S M) (hr : D (M + 1) = r) (hI : rIn t r) (ht : t + 1 ≤ 60000) (hm : jMh D M n hs) (rc : i32 c) (rg : i32 g) (h : ¬ ((0 ≤ c ∧ c < r 1) ∧ (g = 0 ∨ g = 1))) : JM G yX8_setSill cX8_setSill 5 (some .int) (d + 7) (0, 0) S D [.inr (.inr (some M)), .inl c, .inl g, .inl v] (jrP S (jRf D M n hs r (-100000001, none, 0))) := by
  have hM0 := hM
  obtain ⟨mk, m0, m1, m2, m4, m5, m8, m12, y1, l1, y2, l2, y3, l3, y4, l4, y5, l5, y6, l6, y7, l7⟩ := id hM
  have hr0 := hr
  have b1 := hI.1
  show JX _ _ _ _ _ _ _ _ _ _ _ [_, _, _, _, _] _ _
  refine x_aload_n dX8_setSill_0 rfl ?_
  refine x_iload_n dX8_setSill_1 rfl ?_
  refine x_iload_n dX8_setSill_2 rfl ?_
  refine c_RX8_113d dX8_setSill_3 rfl (kX8_noGate hM0 hr0 rc rg (by omega)) (by assumption) (Nat.le_of_ble_eq_true rfl) (Nat.le_of_ble_eq_true rfl) ⟨Nat.le_refl _, Nat.le_refl _⟩ ?_
  refine x_if_eq (tgt := 12) dX8_setSill_6 (by decide) ⟨by split <;> omega, by split <;> omega⟩ (fun hz => absurd hz (by rw [if_neg h]; decide)) (fun hb6 => ?_)
  refine x_ldc (e := -100000001) dX8_setSill_9 ct_RX8_41 (by decide) ?_
  exact x_ireturn dX8_setSill_11 rfl rfl ⟨Nat.le_refl _, Nat.le_refl _⟩ ⟨rfl, _, rfl, jRf_none hr hm⟩
theorem kX8_setSill_b {G : JG} {S : JS} {D : JD} {d : Nat} {M n t : Int} {hs : Int → Int → Int} {r : Int → Int} {c g v : Int} (hM : jMo S M) (hr : D (M + 1) = r) (hI : rIn t r) (ht : t + 1 ≤ 60000) (hm : jMh D M n hs) (h0 : 0 ≤ c) (h1 : c < r 1) (hg : g = 0 ∨ g = 1) (rv : i32 v) (h : ¬ (0 ≤ v ∧ v ≤ 5000)) : JM G yX8_setSill cX8_setSill 5 (some .int) (d + 7) (0, 0) S D [.inr (.inr (some M)), .inl c, .inl g, .inl v] (jrP S (jRf D M n hs r (-100000002, none, 0))) := by
  have hM0 := hM
  obtain ⟨mk, m0, m1, m2, m4, m5, m8, m12, y1, l1, y2, l2, y3, l3, y4, l4, y5, l5, y6, l6, y7, l7⟩ := id hM
  have hr0 := hr
  have b1 := hI.1
  have co := (hI.2.2.1 c h0 h1).2
  unfold rCo at co
  show JX _ _ _ _ _ _ _ _ _ _ _ [_, _, _, _, _] _ _
  refine x_aload_n dX8_setSill_0 rfl ?_
  refine x_iload_n dX8_setSill_1 rfl ?_
  refine x_iload_n dX8_setSill_2 rfl ?_
  refine c_RX8_113d dX8_setSill_3 rfl (kX8_noGate hM0 hr0 ⟨by omega, by omega⟩ ⟨by omega, by omega⟩ (by omega)) (by assumption) (Nat.le_of_ble_eq_true rfl) (Nat.le_of_ble_eq_true rfl) ⟨Nat.le_refl _, Nat.le_refl _⟩ ?_
  refine x_if_eq (tgt := 12) dX8_setSill_6 (by decide) ⟨by split <;> omega, by split <;> omega⟩ (fun hb6 => ?_) (fun hz => (hz (by rw [if_pos ⟨⟨h0, h1⟩, hg⟩])).elim)
  refine x_iload_n dX8_setSill_12 rfl ?_
  refine x_iconst dX8_setSill_13 ?_
  refine x_sipush dX8_setSill_14 (by decide) ?_
  refine c_RX8_49d dX8_setSill_17 rfl (kX8_in rv ⟨by omega, by omega⟩ ⟨by omega, by omega⟩) (Nat.le_of_ble_eq_true rfl) (Nat.le_of_ble_eq_true rfl) ⟨Nat.le_refl _, Nat.le_refl _⟩ ?_
  refine x_if_ne (tgt := 26) dX8_setSill_20 (by decide) ⟨by split <;> omega, by split <;> omega⟩ (fun h => absurd h (by omega)) (fun hb20 => ?_)
  refine x_ldc (e := -100000002) dX8_setSill_23 ct_RX8_104 (by decide) ?_
  exact x_ireturn dX8_setSill_25 rfl rfl ⟨Nat.le_refl _, Nat.le_refl _⟩ ⟨rfl, _, rfl, jRf_none hr hm⟩
theorem kX8_setSill_y {G : JG} {S : JS} {D : JD} {d : Nat} {M n t : Int} {hs : Int → Int → Int} {r : Int → Int} {c g v : Int} (hM : jMo S M) (hr : D (M + 1) = r) (hI : rIn t r) (ht : t + 1 ≤ 60000) (hm : jMh D M n hs) (h0 : 0 ≤ c) (h1 : c < r 1) (hg : g = 0 ∨ g = 1) (rv : i32 v) (h : 0 ≤ v ∧ v ≤ 5000) : JM G yX8_setSill cX8_setSill 5 (some .int) (d + 7) (0, 0) S D [.inr (.inr (some M)), .inl c, .inl g, .inl v] (jrP S (jRf D M n hs r (r (25 + 11 * c + g), some (rup r (25 + 11 * c + g) v), 0))) := by
  have hM0 := hM
  obtain ⟨mk, m0, m1, m2, m4, m5, m8, m12, y1, l1, y2, l2, y3, l3, y4, l4, y5, l5, y6, l6, y7, l7⟩ := id hM
  have hr0 := hr
  have b1 := hI.1
  have co := (hI.2.2.1 c h0 h1).2
  unfold rCo at co
  have es : 0 ≤ r (25 + 11 * c + g) ∧ r (25 + 11 * c + g) ≤ 5000 := by
    rcases hg with rfl | rfl
    · rw [Int.add_zero]; omega
    · rw [show 25 + 11 * c + 1 = 26 + 11 * c by omega]; omega
  show JX _ _ _ _ _ _ _ _ _ _ _ [_, _, _, _, _] _ _
  refine x_aload_n dX8_setSill_0 rfl ?_
  refine x_iload_n dX8_setSill_1 rfl ?_
  refine x_iload_n dX8_setSill_2 rfl ?_
  refine c_RX8_113d dX8_setSill_3 rfl (kX8_noGate hM0 hr0 ⟨by omega, by omega⟩ ⟨by omega, by omega⟩ (by omega)) (by assumption) (Nat.le_of_ble_eq_true rfl) (Nat.le_of_ble_eq_true rfl) ⟨Nat.le_refl _, Nat.le_refl _⟩ ?_
  refine x_if_eq (tgt := 12) dX8_setSill_6 (by decide) ⟨by split <;> omega, by split <;> omega⟩ (fun hb6 => ?_) (fun hz => (hz (by rw [if_pos ⟨⟨h0, h1⟩, hg⟩])).elim)
  refine x_iload_n dX8_setSill_12 rfl ?_
  refine x_iconst dX8_setSill_13 ?_
  refine x_sipush dX8_setSill_14 (by decide) ?_
  refine c_RX8_49d dX8_setSill_17 rfl (kX8_in rv ⟨by omega, by omega⟩ ⟨by omega, by omega⟩) (Nat.le_of_ble_eq_true rfl) (Nat.le_of_ble_eq_true rfl) ⟨Nat.le_refl _, Nat.le_refl _⟩ ?_
  refine x_if_ne (tgt := 26) dX8_setSill_20 (by decide) ⟨by split <;> omega, by split <;> omega⟩ (fun hb20 => ?_) (fun h => (h (by omega)).elim)
  refine x_aload_n dX8_setSill_26 rfl ?_
  refine c_RX8_53p dX8_setSill_27 rfl (kX8_begin hM0 hr0) (by assumption) (Nat.le_of_ble_eq_true rfl) (Nat.le_of_ble_eq_true rfl) ⟨Nat.le_refl _, Nat.le_refl _⟩ (fun D1 h1 => ?_)
  obtain ⟨hsc, bx⟩ := h1
  have hr1 : D1 (M + 1) = r := by rw [bx _ (by omega)]; exact hr
  have hm1 : jMh D1 M n hs := hm.frame (by rw [bx M (by omega)]) (bx _ (by omega))
  refine x_aload_n dX8_setSill_30 rfl ?_
  refine x_iload_n dX8_setSill_31 rfl ?_
  refine x_iconst dX8_setSill_32 ?_
  refine x_iload_n dX8_setSill_33 rfl ?_
  refine x_iadd dX8_setSill_34 ?_
  refine c_RX8_89d dX8_setSill_35 rfl (kX8_chamberOf hM0 hr1 (by omega) (by omega)) (by assumption) (Nat.le_of_ble_eq_true rfl) (Nat.le_of_ble_eq_true rfl) ⟨Nat.le_refl _, Nat.le_refl _⟩ ?_
  rw [show 21 + 11 * c + (4 + g) = 25 + 11 * c + g by omega]
  refine x_istore dX8_setSill_38 (by decide) ?_
  show JX _ _ _ _ _ _ _ _ _ _ _ [_, _, _, _, _] _ _
  refine x_aload_n dX8_setSill_40 rfl ?_
  refine gf_RX8_7 dX8_setSill_41 rfl (by assumption) ?_
  rw [m0]
  refine x_bipush dX8_setSill_44 (by decide) ?_
  refine x_bipush dX8_setSill_46 (by decide) ?_
  refine x_iload_n dX8_setSill_48 rfl ?_
  refine x_imul dX8_setSill_49 ?_
  refine x_iadd dX8_setSill_50 ?_
  refine x_iconst dX8_setSill_51 ?_
  refine x_iadd dX8_setSill_52 ?_
  refine x_iload_n dX8_setSill_53 rfl ?_
  refine x_iadd dX8_setSill_54 ?_
  rw [show 21 + 11 * c + 4 + g = 25 + 11 * c + g by omega]
  refine x_iload_n dX8_setSill_55 rfl ?_
  refine x_iast dX8_setSill_56 (by assumption) ⟨by omega, by omega⟩ ?_
  refine x_aload_n dX8_setSill_57 rfl ?_
  refine x_iload dX8_setSill_58 rfl ?_
  refine c_RX8_110p dX8_setSill_60 rfl (kX8_doneZ (z := (r (25 + 11 * c + g), some (rup r (25 + 11 * c + g) v), 0)) hM0 hm1 hsc ht (jDo_some hr1) (zGood_s (by omega) (by omega) ((hI.own (k := 25 + 11 * c + g) (v := v) h0 h1 (by omega)).mono (by omega)))) (by assumption) (Nat.le_of_ble_eq_true rfl) (Nat.le_of_ble_eq_true rfl) ⟨Nat.le_refl _, Nat.le_refl _⟩ (fun w9 D9 h9 => ?_)
  have hw9 := h9.1
  subst hw9
  exact x_ireturn dX8_setSill_63 rfl rfl ⟨Nat.le_refl _, Nat.le_refl _⟩ ⟨rfl, _, rfl, h9.from bx⟩
theorem kX8_setSill {G : JG} {S : JS} {D : JD} {d : Nat} {M n t : Int} {hs : Int → Int → Int} {r : Int → Int}  {c g v : Int} (hM : jMo S M) (hr : D (M + 1) = r) (hI : rIn t r) (ht : t + 1 ≤ 60000) (hm : jMh D M n hs) (rc : i32 c) (rg : i32 g) (rv : i32 v) : JM G yX8_setSill cX8_setSill 5 (some .int) (d + 7) (0, 0) S D [.inr (.inr (some M)), .inl c, .inl g, .inl v] (jrP S (jRf D M n hs r (zSetSill c g v r))) := by
  unfold zSetSill
  by_cases h : (0 ≤ c ∧ c < r 1) ∧ (g = 0 ∨ g = 1)
  · rw [if_pos h]
    by_cases hv : 0 ≤ v ∧ v ≤ 5000
    · rw [if_pos hv]; exact kX8_setSill_y hM hr hI ht hm h.1.1 h.1.2 h.2 rv hv
    · rw [if_neg hv]; exact kX8_setSill_b hM hr hI ht hm h.1.1 h.1.2 h.2 rv hv
  · rw [if_neg h]; exact kX8_setSill_u hM hr hI ht hm rc rg h
theorem kX8_dredge_u {G : JG} {S : JS} {D : JD} {d : Nat} {M n t : Int} {hs : Int → Int → Int} {r : Int → Int} {c g : Int} (hM : jMo S M) (hr : D (M + 1) = r) (hI : rIn t r) (ht : t + 1 ≤ 60000) (hm : jMh D M n hs) (rc : i32 c) (rg : i32 g) (h : ¬ ((0 ≤ c ∧ c < r 1) ∧ (g = 0 ∨ g = 1))) : JM G yX8_dredge cX8_dredge 4 (some .int) (d + 7) (0, 0) S D [.inr (.inr (some M)), .inl c, .inl g] (jrP S (jRf D M n hs r (-100000001, none, 0))) := by
  have hM0 := hM
  obtain ⟨mk, m0, m1, m2, m4, m5, m8, m12, y1, l1, y2, l2, y3, l3, y4, l4, y5, l5, y6, l6, y7, l7⟩ := id hM
  have hr0 := hr
  have b1 := hI.1
  show JX _ _ _ _ _ _ _ _ _ _ _ [_, _, _, _] _ _
  refine x_aload_n dX8_dredge_0 rfl ?_
  refine x_iload_n dX8_dredge_1 rfl ?_
  refine x_iload_n dX8_dredge_2 rfl ?_
  refine c_RX8_113d dX8_dredge_3 rfl (kX8_noGate hM0 hr0 rc rg (by omega)) (by assumption) (Nat.le_of_ble_eq_true rfl) (Nat.le_of_ble_eq_true rfl) ⟨Nat.le_refl _, Nat.le_refl _⟩ ?_
  refine x_if_eq (tgt := 12) dX8_dredge_6 (by decide) ⟨by split <;> omega, by split <;> omega⟩ (fun hz => absurd hz (by rw [if_neg h]; decide)) (fun hb6 => ?_)
  refine x_ldc (e := -100000001) dX8_dredge_9 ct_RX8_41 (by decide) ?_
  exact x_ireturn dX8_dredge_11 rfl rfl ⟨Nat.le_refl _, Nat.le_refl _⟩ ⟨rfl, _, rfl, jRf_none hr hm⟩
theorem kX8_dredge_n {G : JG} {S : JS} {D : JD} {d : Nat} {M n t : Int} {hs : Int → Int → Int} {r : Int → Int} {c g : Int} (hM : jMo S M) (hr : D (M + 1) = r) (hI : rIn t r) (ht : t + 1 ≤ 60000) (hm : jMh D M n hs) (h0 : 0 ≤ c) (h1 : c < r 1) (hg : g = 0 ∨ g = 1) (h : r (27 + 11 * c + g) = 0) : JM G yX8_dredge cX8_dredge 4 (some .int) (d + 7) (0, 0) S D [.inr (.inr (some M)), .inl c, .inl g] (jrP S (jRf D M n hs r (-100000005, none, 0))) := by
  have hM0 := hM
  obtain ⟨mk, m0, m1, m2, m4, m5, m8, m12, y1, l1, y2, l2, y3, l3, y4, l4, y5, l5, y6, l6, y7, l7⟩ := id hM
  have hr0 := hr
  have b1 := hI.1
  have co := (hI.2.2.1 c h0 h1).2
  unfold rCo at co
  have es : 0 ≤ r (27 + 11 * c + g) ∧ r (27 + 11 * c + g) ≤ t := by
    rcases hg with rfl | rfl
    · rw [Int.add_zero]; omega
    · rw [show 27 + 11 * c + 1 = 28 + 11 * c by omega]; omega
  have eo : (27 + 11 * c + g = 27 + 11 * c ∧ 0 ≤ r (30 + 11 * c)) ∨ (27 + 11 * c + g = 28 + 11 * c ∧ 0 ≤ r (31 + 11 * c)) := by omega
  show JX _ _ _ _ _ _ _ _ _ _ _ [_, _, _, _] _ _
  refine x_aload_n dX8_dredge_0 rfl ?_
  refine x_iload_n dX8_dredge_1 rfl ?_
  refine x_iload_n dX8_dredge_2 rfl ?_
  refine c_RX8_113d dX8_dredge_3 rfl (kX8_noGate hM0 hr0 ⟨by omega, by omega⟩ ⟨by omega, by omega⟩ (by omega)) (by assumption) (Nat.le_of_ble_eq_true rfl) (Nat.le_of_ble_eq_true rfl) ⟨Nat.le_refl _, Nat.le_refl _⟩ ?_
  refine x_if_eq (tgt := 12) dX8_dredge_6 (by decide) ⟨by split <;> omega, by split <;> omega⟩ (fun hb6 => ?_) (fun hz => (hz (by rw [if_pos ⟨⟨h0, h1⟩, hg⟩])).elim)
  refine x_aload_n dX8_dredge_12 rfl ?_
  refine x_iload_n dX8_dredge_13 rfl ?_
  refine x_bipush dX8_dredge_14 (by decide) ?_
  refine x_iload_n dX8_dredge_16 rfl ?_
  refine x_iadd dX8_dredge_17 ?_
  refine c_RX8_89d dX8_dredge_18 rfl (kX8_chamberOf hM0 hr0 (by omega) (by omega)) (by assumption) (Nat.le_of_ble_eq_true rfl) (Nat.le_of_ble_eq_true rfl) ⟨Nat.le_refl _, Nat.le_refl _⟩ ?_
  rw [show 21 + 11 * c + (6 + g) = 27 + 11 * c + g by omega]
  refine x_istore_n dX8_dredge_21 (by decide) ?_
  show JX _ _ _ _ _ _ _ _ _ _ _ [_, _, _, _] _ _
  refine x_iload_n dX8_dredge_22 rfl ?_
  refine x_if_ne (tgt := 29) dX8_dredge_23 (by decide) ⟨by omega, by omega⟩ (fun h => absurd h (by omega)) (fun hb23 => ?_)
  refine x_ldc (e := -100000005) dX8_dredge_26 ct_RX8_48 (by decide) ?_
  exact x_ireturn dX8_dredge_28 rfl rfl ⟨Nat.le_refl _, Nat.le_refl _⟩ ⟨rfl, _, rfl, jRf_none hr hm⟩
theorem kX8_dredge_y {G : JG} {S : JS} {D : JD} {d : Nat} {M n t : Int} {hs : Int → Int → Int} {r : Int → Int} {c g : Int} (hM : jMo S M) (hr : D (M + 1) = r) (hI : rIn t r) (ht : t + 1 ≤ 60000) (hm : jMh D M n hs) (h0 : 0 ≤ c) (h1 : c < r 1) (hg : g = 0 ∨ g = 1) (h : ¬ r (27 + 11 * c + g) = 0) : JM G yX8_dredge cX8_dredge 4 (some .int) (d + 7) (0, 0) S D [.inr (.inr (some M)), .inl c, .inl g] (jrP S (jRf D M n hs r (r (27 + 11 * c + g), some (rup r (27 + 11 * c + g) 0), 0))) := by
  have hM0 := hM
  obtain ⟨mk, m0, m1, m2, m4, m5, m8, m12, y1, l1, y2, l2, y3, l3, y4, l4, y5, l5, y6, l6, y7, l7⟩ := id hM
  have hr0 := hr
  have b1 := hI.1
  have co := (hI.2.2.1 c h0 h1).2
  unfold rCo at co
  have es : 0 ≤ r (27 + 11 * c + g) ∧ r (27 + 11 * c + g) ≤ t := by
    rcases hg with rfl | rfl
    · rw [Int.add_zero]; omega
    · rw [show 27 + 11 * c + 1 = 28 + 11 * c by omega]; omega
  have eo : (27 + 11 * c + g = 27 + 11 * c ∧ 0 ≤ r (30 + 11 * c)) ∨ (27 + 11 * c + g = 28 + 11 * c ∧ 0 ≤ r (31 + 11 * c)) := by omega
  show JX _ _ _ _ _ _ _ _ _ _ _ [_, _, _, _] _ _
  refine x_aload_n dX8_dredge_0 rfl ?_
  refine x_iload_n dX8_dredge_1 rfl ?_
  refine x_iload_n dX8_dredge_2 rfl ?_
  refine c_RX8_113d dX8_dredge_3 rfl (kX8_noGate hM0 hr0 ⟨by omega, by omega⟩ ⟨by omega, by omega⟩ (by omega)) (by assumption) (Nat.le_of_ble_eq_true rfl) (Nat.le_of_ble_eq_true rfl) ⟨Nat.le_refl _, Nat.le_refl _⟩ ?_
  refine x_if_eq (tgt := 12) dX8_dredge_6 (by decide) ⟨by split <;> omega, by split <;> omega⟩ (fun hb6 => ?_) (fun hz => (hz (by rw [if_pos ⟨⟨h0, h1⟩, hg⟩])).elim)
  refine x_aload_n dX8_dredge_12 rfl ?_
  refine x_iload_n dX8_dredge_13 rfl ?_
  refine x_bipush dX8_dredge_14 (by decide) ?_
  refine x_iload_n dX8_dredge_16 rfl ?_
  refine x_iadd dX8_dredge_17 ?_
  refine c_RX8_89d dX8_dredge_18 rfl (kX8_chamberOf hM0 hr0 (by omega) (by omega)) (by assumption) (Nat.le_of_ble_eq_true rfl) (Nat.le_of_ble_eq_true rfl) ⟨Nat.le_refl _, Nat.le_refl _⟩ ?_
  rw [show 21 + 11 * c + (6 + g) = 27 + 11 * c + g by omega]
  refine x_istore_n dX8_dredge_21 (by decide) ?_
  show JX _ _ _ _ _ _ _ _ _ _ _ [_, _, _, _] _ _
  refine x_iload_n dX8_dredge_22 rfl ?_
  refine x_if_ne (tgt := 29) dX8_dredge_23 (by decide) ⟨by omega, by omega⟩ (fun hb23 => ?_) (fun h => (h (by omega)).elim)
  refine x_aload_n dX8_dredge_29 rfl ?_
  refine c_RX8_53p dX8_dredge_30 rfl (kX8_begin hM0 hr0) (by assumption) (Nat.le_of_ble_eq_true rfl) (Nat.le_of_ble_eq_true rfl) ⟨Nat.le_refl _, Nat.le_refl _⟩ (fun D1 h1 => ?_)
  obtain ⟨hsc, bx⟩ := h1
  have hr1 : D1 (M + 1) = r := by rw [bx _ (by omega)]; exact hr
  have hm1 : jMh D1 M n hs := hm.frame (by rw [bx M (by omega)]) (bx _ (by omega))
  refine x_aload_n dX8_dredge_33 rfl ?_
  refine gf_RX8_7 dX8_dredge_34 rfl (by assumption) ?_
  rw [m0]
  refine x_bipush dX8_dredge_37 (by decide) ?_
  refine x_bipush dX8_dredge_39 (by decide) ?_
  refine x_iload_n dX8_dredge_41 rfl ?_
  refine x_imul dX8_dredge_42 ?_
  refine x_iadd dX8_dredge_43 ?_
  refine x_bipush dX8_dredge_44 (by decide) ?_
  refine x_iadd dX8_dredge_46 ?_
  refine x_iload_n dX8_dredge_47 rfl ?_
  refine x_iadd dX8_dredge_48 ?_
  rw [show 21 + 11 * c + 6 + g = 27 + 11 * c + g by omega]
  refine x_iconst dX8_dredge_49 ?_
  refine x_iast dX8_dredge_50 (by assumption) ⟨by omega, by omega⟩ ?_
  refine x_aload_n dX8_dredge_51 rfl ?_
  refine x_iload_n dX8_dredge_52 rfl ?_
  refine c_RX8_110p dX8_dredge_53 rfl (kX8_doneZ (z := (r (27 + 11 * c + g), some (rup r (27 + 11 * c + g) 0), 0)) hM0 hm1 hsc ht (jDo_some hr1) (zGood_s (by omega) (by omega) ((hI.own (k := 27 + 11 * c + g) (v := 0) h0 h1 (by omega)).mono (by omega)))) (by assumption) (Nat.le_of_ble_eq_true rfl) (Nat.le_of_ble_eq_true rfl) ⟨Nat.le_refl _, Nat.le_refl _⟩ (fun w9 D9 h9 => ?_)
  have hw9 := h9.1
  subst hw9
  exact x_ireturn dX8_dredge_56 rfl rfl ⟨Nat.le_refl _, Nat.le_refl _⟩ ⟨rfl, _, rfl, h9.from bx⟩
theorem kX8_dredge {G : JG} {S : JS} {D : JD} {d : Nat} {M n t : Int} {hs : Int → Int → Int} {r : Int → Int}  {c g : Int} (hM : jMo S M) (hr : D (M + 1) = r) (hI : rIn t r) (ht : t + 1 ≤ 60000) (hm : jMh D M n hs) (rc : i32 c) (rg : i32 g) : JM G yX8_dredge cX8_dredge 4 (some .int) (d + 7) (0, 0) S D [.inr (.inr (some M)), .inl c, .inl g] (jrP S (jRf D M n hs r (zDredge c g r))) := by
  unfold zDredge
  by_cases h : (0 ≤ c ∧ c < r 1) ∧ (g = 0 ∨ g = 1)
  · rw [if_pos h]
    by_cases hv : r (27 + 11 * c + g) = 0
    · rw [if_pos hv]; exact kX8_dredge_n hM hr hI ht hm h.1.1 h.1.2 h.2 hv
    · rw [if_neg hv]; exact kX8_dredge_y hM hr hI ht hm h.1.1 h.1.2 h.2 hv
  · rw [if_neg h]; exact kX8_dredge_u hM hr hI ht hm rc rg h
