/-! THE REFERENCE: what is told -/
theorem tWat_no {r : Int → Int} {p e : Int} (h : ¬ (0 ≤ e ∧ e ≤ 5)) : tWat r p e = -100000002 := by
  unfold tWat
  rw [if_neg (by omega), if_neg (by omega), if_neg (by omega), if_neg (by omega), if_neg (by omega), if_neg (by omega)]
theorem tMost_deep {t : Int} {r : Int → Int} {k c g : Int} (hI : rIn t r) (k0 : 0 ≤ k) (k1 : k < r 2) : tMost r k c g < sW r k ↔ gDeep r k c g := by
  obtain ⟨bp, w0, w1, i0, i1, d0, d1⟩ := hI.bw k0 k1
  unfold gDeep sDr
  show (sLv r (100 + c) - sHg r c g - r 3) * r (67 + 8 * k) < sW r k ↔ _
  generalize sLv r (100 + c) - sHg r c g - r 3 = x
  generalize r (67 + 8 * k) = m at *
  generalize sW r k = w at *
  have e := Int.mul_ediv_add_emod (w + m - 1) m
  have l1 := Int.emod_nonneg (w + m - 1) (show m ≠ 0 by omega)
  have l2 := Int.emod_lt_of_pos (w + m - 1) (show 0 < m by omega)
  generalize (w + m - 1) / m = q at *
  constructor
  · intro h
    rcases Int.lt_or_le x q with z | z
    · exact z
    · have := Int.mul_le_mul_of_nonneg_right z (show 0 ≤ m by omega)
      have c1 : m * q = q * m := Int.mul_comm _ _
      omega
  · intro h
    have h2 : x + 1 ≤ q := h
    have := Int.mul_le_mul_of_nonneg_right h2 (show 0 ≤ m by omega)
    have c1 : m * q = q * m := Int.mul_comm _ _
    have c2 : (x + 1) * m = x * m + m := by rw [Int.add_mul, Int.one_mul]
    omega