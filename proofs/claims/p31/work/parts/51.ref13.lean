/-! THE REFERENCE: acts. What an act answers is good -/
theorem zClose_good {t c : Int} {r : Int → Int} (hI : rIn t r) : zGood t (zClose c r) := by
  unfold zClose
  by_cases h : 0 ≤ c ∧ c < r 1
  · have hg := hI.gates c h.1 h.2
    rw [if_pos h]
    by_cases hv : r (29 + 11 * c) < 0
    · rw [if_pos hv]; exact zGood_n (by omega) (by omega)
    · rw [if_neg hv]; exact zGood_s (by omega) (by omega) ((hI.own (k := 29 + 11 * c) (v := -100000005) h.1 h.2 (by omega)).mono (by omega))
  · rw [if_neg h]; exact zGood_n (by omega) (by omega)
theorem zDoSluice_good {t c g : Int} {r : Int → Int} (hI : rIn t r) : zGood t (zDoSluice c g r) := by
  unfold zDoSluice
  by_cases h : (0 ≤ c ∧ c < r 1) ∧ (g = 0 ∨ g = 1)
  · rw [if_pos h]
    by_cases hv : r (29 + 11 * c) < 0
    · rw [if_pos hv]; exact zGood_s (by omega) (by omega) ((hI.share h.1.1 h.1.2 h.2).mono (by omega))
    · rw [if_neg hv]; exact zGood_n (by omega) (by omega)
  · rw [if_neg h]; exact zGood_n (by omega) (by omega)
theorem zDoOpen_good {t c g : Int} {r : Int → Int} (hI : rIn t r) : zGood t (zDoOpen c g r) := by
  unfold zDoOpen
  by_cases h : (0 ≤ c ∧ c < r 1) ∧ (g = 0 ∨ g = 1)
  · rw [if_pos h]
    by_cases hv : r (29 + 11 * c) < 0
    · rw [if_pos hv]
      by_cases hl : sLv r (100 + c) - sLv r (c + g) ≤ 2 ∧ sLv r (c + g) - sLv r (100 + c) ≤ 2
      · rw [if_pos hl]; exact zGood_s (by omega) (by omega) ((hI.own (k := 29 + 11 * c) (v := g) h.1.1 h.1.2 (by omega)).mono (by omega))
      · rw [if_neg hl]; exact zGood_n (by omega) (by omega)
    · rw [if_neg hv]; exact zGood_n (by omega) (by omega)
  · rw [if_neg h]; exact zGood_n (by omega) (by omega)
theorem zLoad_good {t k v : Int} {r : Int → Int} (hI : rIn t r) : zGood t (zLoad k v r) := by
  unfold zLoad
  by_cases h : 0 ≤ k ∧ k < r 2
  · rw [if_pos h]
    by_cases hv : v ≠ 0 ∧ -1000 ≤ v ∧ v ≤ 1000
    · rw [if_pos hv]
      by_cases hp : 100 ≤ r (71 + 8 * k)
      · rw [if_pos hp]; exact zGood_n (by omega) (by omega)
      · rw [if_neg hp]
        by_cases hw : 0 ≤ r (69 + 8 * k) + v ∧ v ≤ r (68 + 8 * k) - r (69 + 8 * k) - r (70 + 8 * k)
        · rw [if_pos hw]
          have hI2 := hI.load h.1 h.2 hw
          have e2 : rLoad k v r 2 = r 2 := by have b1 := hI.1; exact rup_ne (by omega)
          obtain ⟨bp, w0, w1, i0, i1, d0, d1⟩ := hI2.bw h.1 (by rw [e2]; exact h.2)
          exact zGood_s (by omega) (by omega) (hI2.mono (by omega))
        · rw [if_neg hw]; exact zGood_n (by omega) (by omega)
    · rw [if_neg hv]; exact zGood_n (by omega) (by omega)
  · rw [if_neg h]; exact zGood_n (by omega) (by omega)
theorem zPump_good {t k v : Int} {r : Int → Int} (hI : rIn t r) : zGood t (zPump k v r) := by
  unfold zPump
  by_cases h : 0 ≤ k ∧ k < r 2
  · rw [if_pos h]
    by_cases hv : v ≠ 0 ∧ -1000 ≤ v ∧ v ≤ 1000
    · rw [if_pos hv]
      by_cases hw : v ≤ r (wA (r (71 + 8 * k)) + 2) ∧ 0 ≤ r (70 + 8 * k) + v ∧ v ≤ r (68 + 8 * k) - r (69 + 8 * k) - r (70 + 8 * k)
      · rw [if_pos hw]
        have hI2 := hI.pump h.1 h.2 hv.2 hw
        have wb2 : 6 ≤ wA (r (71 + 8 * k)) := by
          have b1 := hI.1
          obtain ⟨bp, -⟩ := hI.bw h.1 h.2
          have bl := bp.lin hI 0
          unfold wA
          split <;> omega
        have e2 : rPump k v r 2 = r 2 := by unfold rPump; rw [rup_ne (by omega), rup_ne (by omega)]
        obtain ⟨bp, w0, w1, i0, i1, d0, d1⟩ := hI2.bw h.1 (by rw [e2]; exact h.2)
        exact zGood_s (by omega) (by omega) hI2
      · rw [if_neg hw]; exact zGood_n (by omega) (by omega)
    · rw [if_neg hv]; exact zGood_n (by omega) (by omega)
  · rw [if_neg h]; exact zGood_n (by omega) (by omega)
theorem zEnter_good {t k c : Int} {r : Int → Int} (hI : rIn t r) : zGood t (zEnter k c r) := by
  unfold zEnter
  by_cases h : (0 ≤ k ∧ k < r 2) ∧ (0 ≤ c ∧ c < r 1)
  · rw [if_pos h]
    obtain ⟨⟨k0, k1⟩, c0, c1⟩ := h
    have hgt := hI.gates c c0 c1
    by_cases hv : r (29 + 11 * c) < 0
    · rw [if_pos hv]; exact zGood_n (by omega) (by omega)
    · rw [if_neg hv]
      obtain ⟨g, hg⟩ : ∃ g, r (29 + 11 * c) = g := ⟨_, rfl⟩
      have g01 : g = 0 ∨ g = 1 := by omega
      rw [hg]
      by_cases hp : r (71 + 8 * k) ≠ c + g
      · rw [if_pos hp]; exact zGood_n (by omega) (by omega)
      · rw [if_neg hp]
        have hp' : r (71 + 8 * k) = c + g := Classical.byContradiction hp
        by_cases ha : gAgr r k
        · rw [if_pos ha]; exact zGood_n (by omega) (by omega)
        · rw [if_neg ha]
          by_cases hl : sLf r c < r (65 + 8 * k)
          · rw [if_pos hl]; exact zGood_n (by omega) (by omega)
          · rw [if_neg hl]
            by_cases hd : gDeep r k c g
            · rw [if_pos hd]; exact zGood_n (by omega) (by omega)
            · rw [if_neg hd]
              have b1 := hI.1
              have hI2 := hI.enter c0 c1 g01 k0 k1 hp' (by omega)
              have hnp : r (71 + 8 * k) ≠ 100 + c := by omega
              have e21 : rEnter k c g r 1 = r 1 := psd_in hI c0 c1 k0 k1 hnp 1 (by omega) (by omega) (by omega) (by omega) (by omega)
              have co := (hI2.2.2.1 c c0 (by rw [e21]; exact c1)).2
              unfold rCo at co
              have hle := sLf_le hI2 c
              exact zGood_s (by omega) (by omega) hI2
  · rw [if_neg h]; exact zGood_n (by omega) (by omega)
theorem zLeave_good {t c g : Int} {r : Int → Int} (hI : rIn t r) : zGood t (zLeave c g r) := by
  unfold zLeave
  by_cases h : (0 ≤ c ∧ c < r 1) ∧ (g = 0 ∨ g = 1)
  · rw [if_pos h]
    obtain ⟨⟨c0, c1⟩, hg⟩ := h
    by_cases ho : r (29 + 11 * c) ≠ g
    · rw [if_pos ho]; exact zGood_n (by omega) (by omega)
    · rw [if_neg ho]
      by_cases hn : r (161 + 13 * c) = 0
      · rw [if_pos hn]; exact zGood_n (by omega) (by omega)
      · rw [if_neg hn]
        by_cases ha : gAgr r (sNext r c g)
        · rw [if_pos ha]; exact zGood_n (by omega) (by omega)
        · rw [if_neg ha]
          by_cases hd : gDeep r (sNext r c g) c g
          · rw [if_pos hd]; exact zGood_n (by omega) (by omega)
          · rw [if_neg hd]
            have b1 := hI.1
            obtain ⟨k0, k1, hk⟩ := hI.next (g := g) c0 c1 hn
            exact zGood_s (by omega) (by omega) (hI.leave c0 c1 hg hn rfl)
  · rw [if_neg h]; exact zGood_n (by omega) (by omega)
theorem rIn.clrI {t v : Int} {r : Int → Int} (hI : rIn t r) (hv : 0 ≤ v ∧ v ≤ 50) : rIn t (rup r 3 v) := by
  have b1 := hI.1
  refine hI.top (by omega) (fun j hj => rup_ne (by omega)) ?_
  rw [rup_eq, rup_ne (by omega), rup_ne (by omega)]
  omega