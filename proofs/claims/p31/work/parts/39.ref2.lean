/-! THE REFERENCE: sums over barges, levels -/
theorem jd_down1 {x z : Int} (hz : 0 < z) (h : x.tmod z < 0) : x / z = x.tdiv z - 1 := by
  have e := Int.mul_tdiv_add_tmod x z
  have c : x.tdiv z * z = z * x.tdiv z := Int.mul_comm _ _
  have hx : x < 0 := by
    rcases Int.lt_or_le x 0 with q | q
    · exact q
    · have := Int.tmod_nonneg (a := x) z q
      omega
  exact jfd_neg hx hz (by omega)
theorem jd_down2 {x z : Int} (hz : 0 < z) (h : ¬ x.tmod z < 0) : x / z = x.tdiv z := by
  have e := Int.mul_tdiv_add_tmod x z
  have c : x.tdiv z * z = z * x.tdiv z := Int.mul_comm _ _
  rcases Int.lt_or_le x 0 with q | q
  · have g := Int.tmod_nonneg (a := -x) z (by omega)
    rw [Int.neg_tmod] at g
    exact jfd_exact hz (by omega)
  · exact jfd_pos q
theorem jd_tm {x z : Int} (rx : i64 x) (rz : i64 z) (hz : 0 < z) : i64 (x.tmod z) := by
  have h1 := Int.tmod_lt_of_pos x hz
  have h2 := Int.lt_tmod_of_pos x hz
  unfold i64 at *
  omega