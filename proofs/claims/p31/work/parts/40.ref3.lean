/-! THE REFERENCE: depths, levels, draughts -/
theorem rIn.wat {t : Int} {r : Int → Int} (hI : rIn t r) (ht : t ≤ 60000) {p : Int} (hp : rPl r p) : rWo r p ∧ r (wA p + 2) ≤ 650000000 ∧ 6 ≤ wA p ∧ wA p < 58 ∧ 0 ≤ p ∧ p < 200 := by
  have b1 := hI.1
  have m := hI.maxw ht
  rcases hp.two hI 0 with ⟨q0, q1, q2, q3, -⟩ | ⟨c, q, q0, q1, q2, q3, -⟩
  · refine ⟨hI.2.1 p q0 q1, by rw [q3]; exact m.2.1 p q0 q1, by omega, by omega, by omega, by omega⟩
  · refine ⟨by rw [q]; exact (hI.2.2.1 c q0 q1).1, by rw [q3]; exact m.2.2 c q0 q1, by omega, by omega, by omega, by omega⟩