/-! THE REFERENCE: supply, and what grows -/
theorem rIn.supply {t i v : Int} {r : Int → Int} (hI : rIn t r) (h0 : 0 ≤ i) (h1 : i < r 0) (h : -1000000 ≤ v ∧ v ≤ 1000000) (hv : 0 ≤ r (8 + 3 * i) + v ∧ r (8 + 3 * i) + v ≤ 100000000) : rIn (t + 100) (rSupply i v r) := by
  have b1 := hI.1
  have wp : rPl r i := Or.inl ⟨h0, h1⟩
  have wa : wA i + 2 = 8 + 3 * i := by rw [wA_r (by omega)]; omega
  have hIa := hI.wat1 (t2 := t + 100) (x := r (8 + 3 * i) + v) wp hv.1 (by omega) (by rw [wa]; have := hI.2.2.2.2.1; omega)
  rw [wa] at hIa
  have er : ∀ j : Int, j < 3 ∨ 6 ≤ j → rSupply i v r j = rup r (8 + 3 * i) (r (8 + 3 * i) + v) j := fun j hj => rup_ne (by omega)
  have r3 : rSupply i v r 3 = r 3 := by unfold rSupply; rw [rup_ne (by omega), rup_ne (by omega)]
  have r4 : rSupply i v r 4 = r 4 + v := by unfold rSupply; rw [rup_eq]
  have r5 : rSupply i v r 5 = r 5 := by unfold rSupply; rw [rup_ne (by omega), rup_ne (by omega)]
  have r0 : rup r (8 + 3 * i) (r (8 + 3 * i) + v) 0 = r 0 := rup_ne (by omega)
  exact hIa.top (t2 := t + 100) (r2 := rSupply i v r) (by omega) er (by rw [r3, r4, r5, r0]; omega)
def rZc (r : Int → Int) (p m : Int) : Int → Int := fun j => if p ≤ j ∧ j < p + m then 0 else r j
theorem rZc_0 {r : Int → Int} {p : Int} : rZc r p 0 = r := by
  funext j
  unfold rZc
  rw [if_neg (by omega)]
theorem rZc_o {r : Int → Int} {p m j : Int} (h : j < p ∨ p + m ≤ j) : rZc r p m j = r j := by
  unfold rZc
  rw [if_neg (by omega)]
theorem rZc_step {r : Int → Int} {p m : Int} (h : 0 ≤ m) : rup (rZc r p m) (p + m) 0 = rZc r p (m + 1) := by
  funext j
  unfold rup rZc
  by_cases e : j = p + m
  · rw [if_pos e, if_pos (by omega)]
  · rw [if_neg e]
    by_cases q : p ≤ j ∧ j < p + m
    · rw [if_pos q, if_pos (by omega)]
    · rw [if_neg q, if_neg (by omega)]
theorem addB_row {p l w i h : Int} {r : Int → Int} (h0 : 0 ≤ r 2) : rup (rup (rup (rup (rup (rup (rZc r (65 + 8 * r 2) 8) (65 + 8 * r 2) l) (66 + 8 * r 2) w) (67 + 8 * r 2) i) (68 + 8 * r 2) h) (71 + 8 * r 2) p) 2 (r 2 + 1) = rAddB p l w i h r := by
  funext j
  simp only [rAddB, rZc, rup]
  by_cases e0 : j = 2
  · repeat (first | rw [if_pos (by omega)] | rw [if_neg (by omega)])
  · skip
    by_cases e1 : j = 65 + 8 * r 2
    · repeat (first | rw [if_pos (by omega)] | rw [if_neg (by omega)])
    · skip
      by_cases e2 : j = 66 + 8 * r 2
      · repeat (first | rw [if_pos (by omega)] | rw [if_neg (by omega)])
      · skip
        by_cases e3 : j = 67 + 8 * r 2
        · repeat (first | rw [if_pos (by omega)] | rw [if_neg (by omega)])
        · skip
          by_cases e4 : j = 68 + 8 * r 2
          · repeat (first | rw [if_pos (by omega)] | rw [if_neg (by omega)])
          · skip
            by_cases e5 : j = 69 + 8 * r 2
            · repeat (first | rw [if_pos (by omega)] | rw [if_neg (by omega)])
            · skip
              by_cases e6 : j = 70 + 8 * r 2
              · repeat (first | rw [if_pos (by omega)] | rw [if_neg (by omega)])
              · skip
                by_cases e7 : j = 71 + 8 * r 2
                · repeat (first | rw [if_pos (by omega)] | rw [if_neg (by omega)])
                · skip
                  by_cases e8 : j = 72 + 8 * r 2
                  · repeat (first | rw [if_pos (by omega)] | rw [if_neg (by omega)])
                  · skip
                    repeat (first | rw [if_pos (by omega)] | rw [if_neg (by omega)])
theorem addC_row {al l f : Int} {r : Int → Int} (h0 : 0 ≤ r 1) : rup (rup (rup (rup (rup (rup (rZc r (21 + 11 * r 1) 11) (21 + 11 * r 1) al) (22 + 11 * r 1) f) (24 + 11 * r 1) l) (29 + 11 * r 1) (-100000005)) (161 + 13 * r 1) 0) 1 (r 1 + 1) = rPutC al l f r := by
  funext j
  simp only [rPutC, rZc, rup]
  by_cases e0 : j = 1
  · repeat (first | rw [if_pos (by omega)] | rw [if_neg (by omega)])
  · skip
    by_cases e1 : j = 161 + 13 * r 1
    · repeat (first | rw [if_pos (by omega)] | rw [if_neg (by omega)])
    · skip
      by_cases e2 : j = 21 + 11 * r 1
      · repeat (first | rw [if_pos (by omega)] | rw [if_neg (by omega)])
      · skip
        by_cases e3 : j = 22 + 11 * r 1
        · repeat (first | rw [if_pos (by omega)] | rw [if_neg (by omega)])
        · skip
          by_cases e4 : j = 23 + 11 * r 1
          · repeat (first | rw [if_pos (by omega)] | rw [if_neg (by omega)])
          · skip
            by_cases e5 : j = 24 + 11 * r 1
            · repeat (first | rw [if_pos (by omega)] | rw [if_neg (by omega)])
            · skip
              by_cases e6 : j = 25 + 11 * r 1
              · repeat (first | rw [if_pos (by omega)] | rw [if_neg (by omega)])
              · skip
                by_cases e7 : j = 26 + 11 * r 1
                · repeat (first | rw [if_pos (by omega)] | rw [if_neg (by omega)])
                · skip
                  by_cases e8 : j = 27 + 11 * r 1
                  · repeat (first | rw [if_pos (by omega)] | rw [if_neg (by omega)])
                  · skip
                    by_cases e9 : j = 28 + 11 * r 1
                    · repeat (first | rw [if_pos (by omega)] | rw [if_neg (by omega)])
                    · skip
                      by_cases e10 : j = 29 + 11 * r 1
                      · repeat (first | rw [if_pos (by omega)] | rw [if_neg (by omega)])
                      · skip
                        by_cases e11 : j = 30 + 11 * r 1
                        · repeat (first | rw [if_pos (by omega)] | rw [if_neg (by omega)])
                        · skip
                          by_cases e12 : j = 31 + 11 * r 1
                          · repeat (first | rw [if_pos (by omega)] | rw [if_neg (by omega)])
                          · skip
                            repeat (first | rw [if_pos (by omega)] | rw [if_neg (by omega)])