/-! WHAT A FLIGHT TELLS, in the row's words -/
def rPl (r : Int → Int) (p : Int) : Prop := (0 ≤ p ∧ p < r 0) ∨ (100 ≤ p ∧ p < 100 + r 1)
def sWa (b p : Int) : Int := if p < 100 then b + 4 + p else b + 9 + 5 * (p - 100) + 1
theorem jFR.watS {t : Int} {D : JD} {b p : Int} {r : Int → Int} (h : jFR D b r) (hI : rIn t r) (hp : rPl r p) : fWa D b p = some (sWa b p) := by
  have b1 := hI.1
  obtain ⟨⟨e0, e1, -⟩, -⟩ := h
  unfold rPl at hp
  unfold fWa sWa fRe
  rw [e0, e1]
  by_cases q : p < 100
  · rw [if_pos q, if_pos q, if_pos (by omega)]
  · rw [if_neg q, if_neg q, if_pos (by omega)]
theorem jFl.wat {S : JS} {b p : Int} {t : Int} {r : Int → Int} (hF : jFl S b) (hI : rIn t r) (hp : rPl r p) : jK S (sWa b p) = 6 := by
  have b1 := hI.1
  unfold rPl at hp
  unfold sWa
  by_cases q : p < 100
  · rw [if_pos q]; exact (hF.2.2.2.2.2.2.2.2.2.2.1 p (by omega) (by omega)).2
  · rw [if_neg q]; exact (hF.2.2.2.2.2.2.2.2.2.2.2.1 (p - 100) (by omega) (by omega)).2.2.2.2.2.2.1
theorem jFR.wat {t : Int} {D : JD} {b p : Int} {r : Int → Int} (h : jFR D b r) (hI : rIn t r) (ht : t ≤ 60000) (hp : rPl r p) : jWR D (sWa b p) r p ∧ rWo r p ∧ r (wA p + 2) ≤ 650000000 := by
  have b1 := hI.1
  have m := hI.maxw ht
  unfold rPl at hp
  unfold sWa
  by_cases q : p < 100
  · rw [if_pos q]
    refine ⟨h.2.1 p (by omega) (by omega), hI.2.1 p (by omega) (by omega), ?_⟩
    rw [wA_r q, show 6 + 3 * p + 2 = 8 + 3 * p by omega]
    exact m.2.1 p (by omega) (by omega)
  · rw [if_neg q]
    have e := h.2.2.1 (p - 100) (by omega) (by omega)
    have e2 := hI.2.2.1 (p - 100) (by omega) (by omega)
    rw [show 100 + (p - 100) = p by omega] at e e2
    refine ⟨e.1, e2.1, ?_⟩
    have := m.2.2 (p - 100) (by omega) (by omega)
    unfold wA
    rwa [if_neg q, show 21 + 11 * (p - 100) + 2 = 23 + 11 * (p - 100) by omega]
theorem jFR.wok {t : Int} {D : JD} {b p : Int} {r : Int → Int} (h : jFR D b r) (hI : rIn t r) (ht : t ≤ 60000) (hp : rPl r p) : i64 ((D (sWa b p) 2 + D (sWa b p) 3) * 100) ∧ i64 (D (sWa b p) 0) ∧ 0 < D (sWa b p) 0 ∧ D (sWa b p) 1 + (D (sWa b p) 2 + D (sWa b p) 3) * 100 / D (sWa b p) 0 = sLv r p ∧ (D (sWa b p) 2 + D (sWa b p) 3) * 100 / D (sWa b p) 0 = sDp r p := by
  obtain ⟨⟨w0, w1, w2, w3, -⟩, wo, wm⟩ := h.wat hI ht hp
  have f := hI.floats p
  unfold rWo at wo
  rw [w0, w1, w2, w3]
  exact ⟨⟨by omega, by omega⟩, ⟨by omega, by omega⟩, by omega, rfl, rfl⟩
theorem rIn.dp {t : Int} {r : Int → Int} (hI : rIn t r) {p : Int} (wo : rWo r p) (wm : r (wA p + 2) ≤ 650000000) : 0 ≤ sDp r p ∧ sDp r p ≤ 700000000 ∧ 0 ≤ sLv r p ∧ sLv r p ≤ 710000000 := by
  have f := hI.floats p
  unfold rWo at wo
  have q0 : 0 ≤ sDp r p := by unfold sDp; exact Int.ediv_nonneg (by omega) (by omega)
  have q1 : sDp r p ≤ 700000000 := by
    unfold sDp
    have : (r (wA p + 2) + sFl r p) * 100 / r (wA p) ≤ (r (wA p + 2) + sFl r p) * 100 / 100 := by
      refine Int.le_ediv_of_mul_le (by decide) ?_
      have e := Int.ediv_mul_le ((r (wA p + 2) + sFl r p) * 100) (show r (wA p) ≠ 0 by omega)
      have k : (r (wA p + 2) + sFl r p) * 100 / r (wA p) * 100 ≤ (r (wA p + 2) + sFl r p) * 100 / r (wA p) * r (wA p) := Int.mul_le_mul_of_nonneg_left (by omega) (Int.ediv_nonneg (by omega) (by omega))
      omega
    omega
  unfold sLv
  omega
theorem rIn.bw {t : Int} {r : Int → Int} (hI : rIn t r) {k : Int} (h0 : 0 ≤ k) (h1 : k < r 2) : rPl r (r (71 + 8 * k)) ∧ 10 ≤ sW r k ∧ sW r k ≤ 1500 ∧ 1 ≤ r (67 + 8 * k) ∧ r (67 + 8 * k) ≤ 20 ∧ 1 ≤ sDr r k ∧ sDr r k ≤ 1500 := by
  have e := hI.2.2.2.1 k h0 h1
  unfold rBo at e
  have w0 : 10 ≤ sW r k ∧ sW r k ≤ 1500 := by unfold sW; omega
  refine ⟨?_, w0.1, w0.2, by omega, by omega, ?_⟩
  · unfold rPl; omega
  · unfold sDr
    constructor
    · exact Int.le_ediv_of_mul_le (by omega) (by omega)
    · have h := Int.ediv_le_ediv (c := r (67 + 8 * k)) (by omega) (show sW r k + r (67 + 8 * k) - 1 ≤ 1500 * r (67 + 8 * k) by omega)
      rw [Int.mul_ediv_cancel _ (show r (67 + 8 * k) ≠ 0 by omega)] at h
      exact h
theorem jFR.ba {D : JD} {b : Int} {r : Int → Int} (h : jFR D b r) {k : Int} (h0 : 0 ≤ k) (h1 : k < r 2) : D (b + 29 + k) 0 = r (65 + 8 * k) ∧ D (b + 29 + k) 1 = r (66 + 8 * k) ∧ D (b + 29 + k) 2 = r (67 + 8 * k) ∧ D (b + 29 + k) 3 = r (68 + 8 * k) ∧ D (b + 29 + k) 4 = r (69 + 8 * k) ∧ D (b + 29 + k) 5 = r (70 + 8 * k) ∧ D (b + 29 + k) 6 = r (71 + 8 * k) ∧ D (b + 29 + k) 7 = r (72 + 8 * k) := by
  have e := h.2.2.2 k
  refine ⟨?_, ?_, ?_, ?_, ?_, ?_, ?_, ?_⟩
  · have := e 0 h0 h1 (by omega) (by omega); rwa [show 65 + 8 * k + 0 = 65 + 8 * k by omega] at this
  · have := e 1 h0 h1 (by omega) (by omega); rwa [show 65 + 8 * k + 1 = 66 + 8 * k by omega] at this
  · have := e 2 h0 h1 (by omega) (by omega); rwa [show 65 + 8 * k + 2 = 67 + 8 * k by omega] at this
  · have := e 3 h0 h1 (by omega) (by omega); rwa [show 65 + 8 * k + 3 = 68 + 8 * k by omega] at this
  · have := e 4 h0 h1 (by omega) (by omega); rwa [show 65 + 8 * k + 4 = 69 + 8 * k by omega] at this
  · have := e 5 h0 h1 (by omega) (by omega); rwa [show 65 + 8 * k + 5 = 70 + 8 * k by omega] at this
  · have := e 6 h0 h1 (by omega) (by omega); rwa [show 65 + 8 * k + 6 = 71 + 8 * k by omega] at this
  · have := e 7 h0 h1 (by omega) (by omega); rwa [show 65 + 8 * k + 7 = 72 + 8 * k by omega] at this
section JRW
variable {G : JG} {S : JS} {D : JD} {d : Nat} {b t p k : Int} {r : Int → Int}
theorem kR_depth (hF : jFl S b) (hR : jFR D b r) (hI : rIn t r) (ht : t ≤ 60000) (hp : rPl r p) : JM G yX6_depth cX6_depth 1 (some .long) (d + 2) (0, 0) S D [.inr (.inr (some (sWa b p)))] (jr (.inr (.inl (sDp r p))) S D) := by
  obtain ⟨h1, h2, h3, -, h5⟩ := hR.wok hI ht hp
  rw [← h5]
  exact kX6_depth (hF.wat hI hp) h1 h2 h3
theorem kR_level (hF : jFl S b) (hR : jFR D b r) (hI : rIn t r) (ht : t ≤ 60000) (hp : rPl r p) : JM G yX6_level cX6_level 1 (some .long) (d + 3) (0, 0) S D [.inr (.inr (some (sWa b p)))] (jr (.inr (.inl (sLv r p))) S D) := by
  obtain ⟨h1, h2, h3, h4, -⟩ := hR.wok hI ht hp
  rw [← h4]
  exact kX6_level (hF.wat hI hp) h1 h2 h3
theorem jFl.bk (hF : jFl S b) (hI : rIn t r) (h0 : 0 ≤ k) (h1 : k < r 2) : jK S (b + 29 + k) = 0 := (hF.2.2.2.2.2.2.2.2.2.2.2.2 k h0 (by have := hI.1; omega)).2
theorem kR_weight (hF : jFl S b) (hR : jFR D b r) (hI : rIn t r) (h0 : 0 ≤ k) (h1 : k < r 2) : JM G yX0_weight cX0_weight 1 (some .int) d (0, 0) S D [.inr (.inr (some (b + 29 + k)))] (jr (.inl (sW r k)) S D) := by
  obtain ⟨-, e1, -, -, e4, e5, -⟩ := hR.ba h0 h1
  unfold sW
  rw [← e1, ← e4, ← e5]
  exact kX0_weight (hF.bk hI h0 h1)
theorem kR_freeHold (hF : jFl S b) (hR : jFR D b r) (hI : rIn t r) (h0 : 0 ≤ k) (h1 : k < r 2) : JM G yX0_freeHold cX0_freeHold 1 (some .int) d (0, 0) S D [.inr (.inr (some (b + 29 + k)))] (jr (.inl (r (68 + 8 * k) - r (69 + 8 * k) - r (70 + 8 * k))) S D) := by
  obtain ⟨-, -, -, e3, e4, e5, -⟩ := hR.ba h0 h1
  rw [← e3, ← e4, ← e5]
  exact kX0_freeHold (hF.bk hI h0 h1)
theorem kR_draught (hF : jFl S b) (hR : jFR D b r) (hI : rIn t r) (h0 : 0 ≤ k) (h1 : k < r 2) : JM G yX0_draught cX0_draught 1 (some .int) (d + 2) (0, 0) S D [.inr (.inr (some (b + 29 + k)))] (jr (.inl (sDr r k)) S D) := by
  obtain ⟨-, e1, e2, -, e4, e5, -⟩ := hR.ba h0 h1
  have w := hI.bw h0 h1
  unfold sDr
  unfold sW at w ⊢
  rw [← e1, ← e2, ← e4, ← e5] at w ⊢
  exact kX0_draught (hF.bk hI h0 h1) ⟨by omega, by omega⟩ ⟨by omega, by omega⟩
end JRW
theorem kX2_isAground {G : JG} {S : JS} {D : JD} {d : Nat} {b t : Int} {r : Int → Int} {k : Int} (hF : jFl S b) (hR : jFR D b r) (hI : rIn t r) (ht : t ≤ 60000) (h0 : 0 ≤ k) (h1 : k < r 2) : JM G yX2_isAground cX2_isAground 3 (some .boolean) (d + 3) (0, 0) S D [.inr (.inr (some b)), .inr (.inr (some (b + 29 + k)))] (jr (.inl (if sDp r (r (71 + 8 * k)) < sDr r k then 1 else 0)) S D) := by
  have fk := hF.1
  have hc := hR.ct hI
  have b1 := hI.1
  have bk := hF.bk hI h0 h1
  obtain ⟨e0, e1, e2, e3, e4, e5, e6, e7⟩ := hR.ba h0 h1
  obtain ⟨bp, w0, w1, i0, i1, d0, d1⟩ := hI.bw h0 h1
  have wk := hF.wat hI bp
  have wf := hR.watS hI bp
  obtain ⟨-, wo, wm⟩ := hR.wat hI ht bp
  have dp := hI.dp wo wm
  have bo := hI.2.2.2.1 k h0 h1
  unfold rBo at bo
  show JX _ _ _ _ _ _ _ _ _ _ _ [_, _, _] _ _
  refine x_aload_n dX2_isAground_0 rfl ?_
  refine x_aload_n dX2_isAground_1 rfl ?_
  refine gf_RX2_91 dX2_isAground_2 rfl (by assumption) ?_
  rw [e6]
  refine c_RX2_81d dX2_isAground_5 rfl (kX2_waterAt hF hc ⟨by omega, by omega⟩) (by assumption) (Nat.le_of_ble_eq_true rfl) (Nat.le_of_ble_eq_true rfl) ⟨Nat.le_refl _, Nat.le_refl _⟩ ?_
  rw [wf]
  refine x_astore_n dX2_isAground_8 (by decide) ?_
  show JX _ _ _ _ _ _ _ _ _ _ _ [_, _, _] _ _
  refine x_aload_n dX2_isAground_9 rfl ?_
  refine x_ifnull (tgt := 30) dX2_isAground_10 (by decide) (fun h => by cases h) (fun hb10 => ?_)
  refine x_aload_n dX2_isAground_13 rfl ?_
  refine c_RX2_94d dX2_isAground_14 rfl (kR_depth hF hR hI ht bp) (by assumption) (Nat.le_of_ble_eq_true rfl) (Nat.le_of_ble_eq_true rfl) ⟨Nat.le_refl _, Nat.le_refl _⟩ ?_
  refine x_aload_n dX2_isAground_17 rfl ?_
  refine c_RX2_98d dX2_isAground_18 rfl (kR_draught hF hR hI h0 h1) (by assumption) (Nat.le_of_ble_eq_true rfl) (Nat.le_of_ble_eq_true rfl) ⟨Nat.le_refl _, Nat.le_refl _⟩ ?_
  refine x_i2l dX2_isAground_21 ⟨by omega, by omega⟩ ?_
  refine x_lc_ge (tgt := 30) dX2_isAground_22 dX2_isAground_23 (by decide) ⟨by omega, by omega⟩ ⟨by omega, by omega⟩ (fun hb23 => ?_) (fun hb23 => ?_)
  · refine x_iconst dX2_isAground_30 ?_
    exact x_ireturn dX2_isAground_31 rfl (jbool (by first | exact Or.inl rfl | exact Or.inr rfl)).1 ⟨Nat.le_refl _, Nat.le_refl _⟩ ⟨by congr; omega, rfl, rfl⟩
  · refine x_iconst dX2_isAground_26 ?_
    refine x_goto (tgt := 31) dX2_isAground_27 (by decide) ?_
    exact x_ireturn dX2_isAground_31 rfl (jbool (by first | exact Or.inl rfl | exact Or.inr rfl)).1 ⟨Nat.le_refl _, Nat.le_refl _⟩ ⟨by congr; omega, rfl, rfl⟩
def sHg (r : Int → Int) (c g : Int) : Int := r (25 + 11 * c + g) + r (27 + 11 * c + g)
theorem kX2_mostDraught_0 {G : JG} {S : JS} {D : JD} {d : Nat} {b t : Int} {r : Int → Int} {c : Int} (hF : jFl S b) (hR : jFR D b r) (hI : rIn t r) (ht : t ≤ 60000) (h0 : 0 ≤ c) (h1 : c < r 1) : JM G yX2_mostDraught cX2_mostDraught 3 (some .long) (d + 4) (0, 0) S D [.inr (.inr (some b)), .inr (.inr (some (b + 9 + 5 * c))), .inr (.inr (some (b + 9 + 5 * c + 2)))] (jr (.inr (.inl (sLv r (100 + c) - sHg r c 0 - r 3))) S D) := by
  have fk := hF.1
  have hc := hR.ct hI
  have b1 := hI.1
  have cc := (hF.2.2.2.2.2.2.2.2.2.2.2.1 c h0 (by omega)).2
  have cck := cc.1
  have cw := cc.2.1
  have ck2 := cc.2.2.2.2.2.2.1
  have ck3 := cc.2.2.2.2.2.2.2.1
  have wp : rPl r (100 + c) := Or.inr ⟨by omega, by omega⟩
  have we : sWa b (100 + c) = b + 9 + 5 * c + 1 := by unfold sWa; rw [if_neg (by omega)]; omega
  have wk := hF.wat hI wp
  obtain ⟨-, wo, wm⟩ := hR.wat hI ht wp
  have dp := hI.dp wo wm
  have co := (hI.2.2.1 c h0 h1).2
  unfold rCo at co
  obtain ⟨s5, s6, s7, s4, sr, q0, q1, q2, q3, q4, q5⟩ := (hR.2.2.1 c h0 h1).2
  rw [we] at wk
  have kl := kR_level (G := G) (d := d) hF hR hI ht wp
  rw [we] at kl
  show JX _ _ _ _ _ _ _ _ _ _ _ [_, _, _] _ _
  refine x_aload_n dX2_mostDraught_0 rfl ?_
  refine gf_RX2_68 dX2_mostDraught_1 rfl (by assumption) ?_
  rw [cw]
  refine c_RX2_102d dX2_mostDraught_4 rfl (kl) (by assumption) (Nat.le_of_ble_eq_true rfl) (Nat.le_of_ble_eq_true rfl) ⟨Nat.le_refl _, Nat.le_refl _⟩ ?_
  refine x_aload_n dX2_mostDraught_7 rfl ?_
  refine c_RX2_105d dX2_mostDraught_8 rfl (kX5_height ck2) (by assumption) (Nat.le_of_ble_eq_true rfl) (Nat.le_of_ble_eq_true rfl) ⟨Nat.le_refl _, Nat.le_refl _⟩ ?_
  rw [q0, q2]
  refine x_i2l dX2_mostDraught_11 ⟨by omega, by omega⟩ ?_
  refine x_lsub dX2_mostDraught_12 ?_
  refine x_aload_n dX2_mostDraught_13 rfl ?_
  refine gf_RX2_42 dX2_mostDraught_14 rfl (by assumption) ?_
  rw [hR.1.2.2.2.1]
  refine x_i2l dX2_mostDraught_17 ⟨by omega, by omega⟩ ?_
  refine x_lsub dX2_mostDraught_18 ?_
  exact x_lreturn dX2_mostDraught_19 rfl ⟨Nat.le_refl _, Nat.le_refl _⟩ ⟨by unfold sHg; rw [show 25 + 11 * c + 0 = 25 + 11 * c by omega, show 27 + 11 * c + 0 = 27 + 11 * c by omega], rfl, rfl⟩
theorem kX2_mostDraught_1 {G : JG} {S : JS} {D : JD} {d : Nat} {b t : Int} {r : Int → Int} {c : Int} (hF : jFl S b) (hR : jFR D b r) (hI : rIn t r) (ht : t ≤ 60000) (h0 : 0 ≤ c) (h1 : c < r 1) : JM G yX2_mostDraught cX2_mostDraught 3 (some .long) (d + 4) (0, 0) S D [.inr (.inr (some b)), .inr (.inr (some (b + 9 + 5 * c))), .inr (.inr (some (b + 9 + 5 * c + 3)))] (jr (.inr (.inl (sLv r (100 + c) - sHg r c 1 - r 3))) S D) := by
  have fk := hF.1
  have hc := hR.ct hI
  have b1 := hI.1
  have cc := (hF.2.2.2.2.2.2.2.2.2.2.2.1 c h0 (by omega)).2
  have cck := cc.1
  have cw := cc.2.1
  have ck2 := cc.2.2.2.2.2.2.1
  have ck3 := cc.2.2.2.2.2.2.2.1
  have wp : rPl r (100 + c) := Or.inr ⟨by omega, by omega⟩
  have we : sWa b (100 + c) = b + 9 + 5 * c + 1 := by unfold sWa; rw [if_neg (by omega)]; omega
  have wk := hF.wat hI wp
  obtain ⟨-, wo, wm⟩ := hR.wat hI ht wp
  have dp := hI.dp wo wm
  have co := (hI.2.2.1 c h0 h1).2
  unfold rCo at co
  obtain ⟨s5, s6, s7, s4, sr, q0, q1, q2, q3, q4, q5⟩ := (hR.2.2.1 c h0 h1).2
  rw [we] at wk
  have kl := kR_level (G := G) (d := d) hF hR hI ht wp
  rw [we] at kl
  show JX _ _ _ _ _ _ _ _ _ _ _ [_, _, _] _ _
  refine x_aload_n dX2_mostDraught_0 rfl ?_
  refine gf_RX2_68 dX2_mostDraught_1 rfl (by assumption) ?_
  rw [cw]
  refine c_RX2_102d dX2_mostDraught_4 rfl (kl) (by assumption) (Nat.le_of_ble_eq_true rfl) (Nat.le_of_ble_eq_true rfl) ⟨Nat.le_refl _, Nat.le_refl _⟩ ?_
  refine x_aload_n dX2_mostDraught_7 rfl ?_
  refine c_RX2_105d dX2_mostDraught_8 rfl (kX5_height ck3) (by assumption) (Nat.le_of_ble_eq_true rfl) (Nat.le_of_ble_eq_true rfl) ⟨Nat.le_refl _, Nat.le_refl _⟩ ?_
  rw [q1, q3]
  refine x_i2l dX2_mostDraught_11 ⟨by omega, by omega⟩ ?_
  refine x_lsub dX2_mostDraught_12 ?_
  refine x_aload_n dX2_mostDraught_13 rfl ?_
  refine gf_RX2_42 dX2_mostDraught_14 rfl (by assumption) ?_
  rw [hR.1.2.2.2.1]
  refine x_i2l dX2_mostDraught_17 ⟨by omega, by omega⟩ ?_
  refine x_lsub dX2_mostDraught_18 ?_
  exact x_lreturn dX2_mostDraught_19 rfl ⟨Nat.le_refl _, Nat.le_refl _⟩ ⟨by unfold sHg; rw [show 25 + 11 * c + 1 = 26 + 11 * c by omega, show 27 + 11 * c + 1 = 28 + 11 * c by omega], rfl, rfl⟩
theorem kX2_propertyOf_0 {G : JG} {S : JS} {D : JD} {d : Nat} {b t : Int} {r : Int → Int} {k : Int} (hF : jFl S b) (hR : jFR D b r) (hI : rIn t r) (ht : t ≤ 60000) (h0 : 0 ≤ k) (h1 : k < r 2) : JM G yX2_propertyOf cX2_propertyOf 3 (some .int) (d + 4) (0, 0) S D [.inr (.inr (some b)), .inr (.inr (some (b + 29 + k))), .inl 0] (jr (.inl (r (65 + 8 * k))) S D) := by
  have fk := hF.1
  have hc := hR.ct hI
  have b1 := hI.1
  have bk := hF.bk hI h0 h1
  obtain ⟨e0, e1, e2, e3, e4, e5, e6, e7⟩ := hR.ba h0 h1
  obtain ⟨bp, w0, w1, i0, i1, d0, d1⟩ := hI.bw h0 h1
  have wk := hF.wat hI bp
  have wf := hR.watS hI bp
  obtain ⟨-, wo, wm⟩ := hR.wat hI ht bp
  have dp := hI.dp wo wm
  have bo := hI.2.2.2.1 k h0 h1
  unfold rBo at bo
  show JX _ _ _ _ _ _ _ _ _ _ _ [_, _, _] _ _
  refine x_iload_n dX2_propertyOf_0 rfl ?_
  refine x_switch (tgt := 52) dX2_propertyOf_1 ⟨by omega, by omega⟩ (by decide) (by decide) ?_
  refine x_aload_n dX2_propertyOf_52 rfl ?_
  refine gf_RX2_130 dX2_propertyOf_53 rfl (by assumption) ?_
  exact x_ireturn dX2_propertyOf_56 rfl rfl ⟨Nat.le_refl _, Nat.le_refl _⟩ ⟨by rw [e0], rfl, rfl⟩
theorem kX2_propertyOf_1 {G : JG} {S : JS} {D : JD} {d : Nat} {b t : Int} {r : Int → Int} {k : Int} (hF : jFl S b) (hR : jFR D b r) (hI : rIn t r) (ht : t ≤ 60000) (h0 : 0 ≤ k) (h1 : k < r 2) : JM G yX2_propertyOf cX2_propertyOf 3 (some .int) (d + 4) (0, 0) S D [.inr (.inr (some b)), .inr (.inr (some (b + 29 + k))), .inl 1] (jr (.inl (sW r k)) S D) := by
  have fk := hF.1
  have hc := hR.ct hI
  have b1 := hI.1
  have bk := hF.bk hI h0 h1
  obtain ⟨e0, e1, e2, e3, e4, e5, e6, e7⟩ := hR.ba h0 h1
  obtain ⟨bp, w0, w1, i0, i1, d0, d1⟩ := hI.bw h0 h1
  have wk := hF.wat hI bp
  have wf := hR.watS hI bp
  obtain ⟨-, wo, wm⟩ := hR.wat hI ht bp
  have dp := hI.dp wo wm
  have bo := hI.2.2.2.1 k h0 h1
  unfold rBo at bo
  show JX _ _ _ _ _ _ _ _ _ _ _ [_, _, _] _ _
  refine x_iload_n dX2_propertyOf_0 rfl ?_
  refine x_switch (tgt := 57) dX2_propertyOf_1 ⟨by omega, by omega⟩ (by decide) (by decide) ?_
  refine x_aload_n dX2_propertyOf_57 rfl ?_
  refine c_RX2_110d dX2_propertyOf_58 rfl (kR_weight hF hR hI h0 h1) (by assumption) (Nat.le_of_ble_eq_true rfl) (Nat.le_of_ble_eq_true rfl) ⟨Nat.le_refl _, Nat.le_refl _⟩ ?_
  exact x_ireturn dX2_propertyOf_61 rfl rfl ⟨Nat.le_refl _, Nat.le_refl _⟩ ⟨by first | rfl | (congr; omega), rfl, rfl⟩
theorem kX2_propertyOf_2 {G : JG} {S : JS} {D : JD} {d : Nat} {b t : Int} {r : Int → Int} {k : Int} (hF : jFl S b) (hR : jFR D b r) (hI : rIn t r) (ht : t ≤ 60000) (h0 : 0 ≤ k) (h1 : k < r 2) : JM G yX2_propertyOf cX2_propertyOf 3 (some .int) (d + 4) (0, 0) S D [.inr (.inr (some b)), .inr (.inr (some (b + 29 + k))), .inl 2] (jr (.inl (sDr r k)) S D) := by
  have fk := hF.1
  have hc := hR.ct hI
  have b1 := hI.1
  have bk := hF.bk hI h0 h1
  obtain ⟨e0, e1, e2, e3, e4, e5, e6, e7⟩ := hR.ba h0 h1
  obtain ⟨bp, w0, w1, i0, i1, d0, d1⟩ := hI.bw h0 h1
  have wk := hF.wat hI bp
  have wf := hR.watS hI bp
  obtain ⟨-, wo, wm⟩ := hR.wat hI ht bp
  have dp := hI.dp wo wm
  have bo := hI.2.2.2.1 k h0 h1
  unfold rBo at bo
  show JX _ _ _ _ _ _ _ _ _ _ _ [_, _, _] _ _
  refine x_iload_n dX2_propertyOf_0 rfl ?_
  refine x_switch (tgt := 62) dX2_propertyOf_1 ⟨by omega, by omega⟩ (by decide) (by decide) ?_
  refine x_aload_n dX2_propertyOf_62 rfl ?_
  refine c_RX2_98d dX2_propertyOf_63 rfl (kR_draught hF hR hI h0 h1) (by assumption) (Nat.le_of_ble_eq_true rfl) (Nat.le_of_ble_eq_true rfl) ⟨Nat.le_refl _, Nat.le_refl _⟩ ?_
  exact x_ireturn dX2_propertyOf_66 rfl rfl ⟨Nat.le_refl _, Nat.le_refl _⟩ ⟨by first | rfl | (congr; omega), rfl, rfl⟩
theorem kX2_propertyOf_3 {G : JG} {S : JS} {D : JD} {d : Nat} {b t : Int} {r : Int → Int} {k : Int} (hF : jFl S b) (hR : jFR D b r) (hI : rIn t r) (ht : t ≤ 60000) (h0 : 0 ≤ k) (h1 : k < r 2) : JM G yX2_propertyOf cX2_propertyOf 3 (some .int) (d + 4) (0, 0) S D [.inr (.inr (some b)), .inr (.inr (some (b + 29 + k))), .inl 3] (jr (.inl (r (69 + 8 * k))) S D) := by
  have fk := hF.1
  have hc := hR.ct hI
  have b1 := hI.1
  have bk := hF.bk hI h0 h1
  obtain ⟨e0, e1, e2, e3, e4, e5, e6, e7⟩ := hR.ba h0 h1
  obtain ⟨bp, w0, w1, i0, i1, d0, d1⟩ := hI.bw h0 h1
  have wk := hF.wat hI bp
  have wf := hR.watS hI bp
  obtain ⟨-, wo, wm⟩ := hR.wat hI ht bp
  have dp := hI.dp wo wm
  have bo := hI.2.2.2.1 k h0 h1
  unfold rBo at bo
  show JX _ _ _ _ _ _ _ _ _ _ _ [_, _, _] _ _
  refine x_iload_n dX2_propertyOf_0 rfl ?_
  refine x_switch (tgt := 67) dX2_propertyOf_1 ⟨by omega, by omega⟩ (by decide) (by decide) ?_
  refine x_aload_n dX2_propertyOf_67 rfl ?_
  refine gf_RX2_133 dX2_propertyOf_68 rfl (by assumption) ?_
  exact x_ireturn dX2_propertyOf_71 rfl rfl ⟨Nat.le_refl _, Nat.le_refl _⟩ ⟨by rw [e4], rfl, rfl⟩
theorem kX2_propertyOf_4 {G : JG} {S : JS} {D : JD} {d : Nat} {b t : Int} {r : Int → Int} {k : Int} (hF : jFl S b) (hR : jFR D b r) (hI : rIn t r) (ht : t ≤ 60000) (h0 : 0 ≤ k) (h1 : k < r 2) : JM G yX2_propertyOf cX2_propertyOf 3 (some .int) (d + 4) (0, 0) S D [.inr (.inr (some b)), .inr (.inr (some (b + 29 + k))), .inl 4] (jr (.inl (r (70 + 8 * k))) S D) := by
  have fk := hF.1
  have hc := hR.ct hI
  have b1 := hI.1
  have bk := hF.bk hI h0 h1
  obtain ⟨e0, e1, e2, e3, e4, e5, e6, e7⟩ := hR.ba h0 h1
  obtain ⟨bp, w0, w1, i0, i1, d0, d1⟩ := hI.bw h0 h1
  have wk := hF.wat hI bp
  have wf := hR.watS hI bp
  obtain ⟨-, wo, wm⟩ := hR.wat hI ht bp
  have dp := hI.dp wo wm
  have bo := hI.2.2.2.1 k h0 h1
  unfold rBo at bo
  show JX _ _ _ _ _ _ _ _ _ _ _ [_, _, _] _ _
  refine x_iload_n dX2_propertyOf_0 rfl ?_
  refine x_switch (tgt := 72) dX2_propertyOf_1 ⟨by omega, by omega⟩ (by decide) (by decide) ?_
  refine x_aload_n dX2_propertyOf_72 rfl ?_
  refine gf_RX2_136 dX2_propertyOf_73 rfl (by assumption) ?_
  exact x_ireturn dX2_propertyOf_76 rfl rfl ⟨Nat.le_refl _, Nat.le_refl _⟩ ⟨by rw [e5], rfl, rfl⟩
theorem kX2_propertyOf_5 {G : JG} {S : JS} {D : JD} {d : Nat} {b t : Int} {r : Int → Int} {k : Int} (hF : jFl S b) (hR : jFR D b r) (hI : rIn t r) (ht : t ≤ 60000) (h0 : 0 ≤ k) (h1 : k < r 2) : JM G yX2_propertyOf cX2_propertyOf 3 (some .int) (d + 4) (0, 0) S D [.inr (.inr (some b)), .inr (.inr (some (b + 29 + k))), .inl 5] (jr (.inl (r (68 + 8 * k) - r (69 + 8 * k) - r (70 + 8 * k))) S D) := by
  have fk := hF.1
  have hc := hR.ct hI
  have b1 := hI.1
  have bk := hF.bk hI h0 h1
  obtain ⟨e0, e1, e2, e3, e4, e5, e6, e7⟩ := hR.ba h0 h1
  obtain ⟨bp, w0, w1, i0, i1, d0, d1⟩ := hI.bw h0 h1
  have wk := hF.wat hI bp
  have wf := hR.watS hI bp
  obtain ⟨-, wo, wm⟩ := hR.wat hI ht bp
  have dp := hI.dp wo wm
  have bo := hI.2.2.2.1 k h0 h1
  unfold rBo at bo
  show JX _ _ _ _ _ _ _ _ _ _ _ [_, _, _] _ _
  refine x_iload_n dX2_propertyOf_0 rfl ?_
  refine x_switch (tgt := 77) dX2_propertyOf_1 ⟨by omega, by omega⟩ (by decide) (by decide) ?_
  refine x_aload_n dX2_propertyOf_77 rfl ?_
  refine c_RX2_139d dX2_propertyOf_78 rfl (kR_freeHold hF hR hI h0 h1) (by assumption) (Nat.le_of_ble_eq_true rfl) (Nat.le_of_ble_eq_true rfl) ⟨Nat.le_refl _, Nat.le_refl _⟩ ?_
  exact x_ireturn dX2_propertyOf_81 rfl rfl ⟨Nat.le_refl _, Nat.le_refl _⟩ ⟨by first | rfl | (congr; omega), rfl, rfl⟩
theorem kX2_propertyOf_6 {G : JG} {S : JS} {D : JD} {d : Nat} {b t : Int} {r : Int → Int} {k : Int} (hF : jFl S b) (hR : jFR D b r) (hI : rIn t r) (ht : t ≤ 60000) (h0 : 0 ≤ k) (h1 : k < r 2) : JM G yX2_propertyOf cX2_propertyOf 3 (some .int) (d + 4) (0, 0) S D [.inr (.inr (some b)), .inr (.inr (some (b + 29 + k))), .inl 6] (jr (.inl (if sDp r (r (71 + 8 * k)) < sDr r k then 1 else 0)) S D) := by
  have fk := hF.1
  have hc := hR.ct hI
  have b1 := hI.1
  have bk := hF.bk hI h0 h1
  obtain ⟨e0, e1, e2, e3, e4, e5, e6, e7⟩ := hR.ba h0 h1
  obtain ⟨bp, w0, w1, i0, i1, d0, d1⟩ := hI.bw h0 h1
  have wk := hF.wat hI bp
  have wf := hR.watS hI bp
  obtain ⟨-, wo, wm⟩ := hR.wat hI ht bp
  have dp := hI.dp wo wm
  have bo := hI.2.2.2.1 k h0 h1
  unfold rBo at bo
  show JX _ _ _ _ _ _ _ _ _ _ _ [_, _, _] _ _
  refine x_iload_n dX2_propertyOf_0 rfl ?_
  refine x_switch (tgt := 82) dX2_propertyOf_1 ⟨by omega, by omega⟩ (by decide) (by decide) ?_
  refine x_aload_n dX2_propertyOf_82 rfl ?_
  refine x_aload_n dX2_propertyOf_83 rfl ?_
  refine c_RX2_142d dX2_propertyOf_84 rfl (kX2_isAground hF hR hI ht h0 h1) (by assumption) (Nat.le_of_ble_eq_true rfl) (Nat.le_of_ble_eq_true rfl) ⟨Nat.le_refl _, Nat.le_refl _⟩ ?_
  refine x_if_eq (tgt := 94) dX2_propertyOf_87 (by decide) ⟨by split <;> omega, by split <;> omega⟩ (fun hb87 => ?_) (fun hb87 => ?_)
  · refine x_iconst dX2_propertyOf_94 ?_
    exact x_ireturn dX2_propertyOf_95 rfl rfl ⟨Nat.le_refl _, Nat.le_refl _⟩ ⟨by first | rfl | (congr; omega), rfl, rfl⟩
  · refine x_iconst dX2_propertyOf_90 ?_
    refine x_goto (tgt := 95) dX2_propertyOf_91 (by decide) ?_
    exact x_ireturn dX2_propertyOf_95 rfl rfl ⟨Nat.le_refl _, Nat.le_refl _⟩ ⟨by first | rfl | (congr; omega), rfl, rfl⟩
theorem kX2_propertyOf_7 {G : JG} {S : JS} {D : JD} {d : Nat} {b t : Int} {r : Int → Int} {k : Int} (hF : jFl S b) (hR : jFR D b r) (hI : rIn t r) (ht : t ≤ 60000) (h0 : 0 ≤ k) (h1 : k < r 2) : JM G yX2_propertyOf cX2_propertyOf 3 (some .int) (d + 4) (0, 0) S D [.inr (.inr (some b)), .inr (.inr (some (b + 29 + k))), .inl 7] (jr (.inl (r (71 + 8 * k))) S D) := by
  have fk := hF.1
  have hc := hR.ct hI
  have b1 := hI.1
  have bk := hF.bk hI h0 h1
  obtain ⟨e0, e1, e2, e3, e4, e5, e6, e7⟩ := hR.ba h0 h1
  obtain ⟨bp, w0, w1, i0, i1, d0, d1⟩ := hI.bw h0 h1
  have wk := hF.wat hI bp
  have wf := hR.watS hI bp
  obtain ⟨-, wo, wm⟩ := hR.wat hI ht bp
  have dp := hI.dp wo wm
  have bo := hI.2.2.2.1 k h0 h1
  unfold rBo at bo
  show JX _ _ _ _ _ _ _ _ _ _ _ [_, _, _] _ _
  refine x_iload_n dX2_propertyOf_0 rfl ?_
  refine x_switch (tgt := 96) dX2_propertyOf_1 ⟨by omega, by omega⟩ (by decide) (by decide) ?_
  refine x_aload_n dX2_propertyOf_96 rfl ?_
  refine gf_RX2_91 dX2_propertyOf_97 rfl (by assumption) ?_
  exact x_ireturn dX2_propertyOf_100 rfl rfl ⟨Nat.le_refl _, Nat.le_refl _⟩ ⟨by rw [e6], rfl, rfl⟩
theorem kX2_propertyOf_8 {G : JG} {S : JS} {D : JD} {d : Nat} {b t : Int} {r : Int → Int} {k : Int} (hF : jFl S b) (hR : jFR D b r) (hI : rIn t r) (ht : t ≤ 60000) (h0 : 0 ≤ k) (h1 : k < r 2) : JM G yX2_propertyOf cX2_propertyOf 3 (some .int) (d + 4) (0, 0) S D [.inr (.inr (some b)), .inr (.inr (some (b + 29 + k))), .inl 8] (jr (.inl (r (72 + 8 * k))) S D) := by
  have fk := hF.1
  have hc := hR.ct hI
  have b1 := hI.1
  have bk := hF.bk hI h0 h1
  obtain ⟨e0, e1, e2, e3, e4, e5, e6, e7⟩ := hR.ba h0 h1
  obtain ⟨bp, w0, w1, i0, i1, d0, d1⟩ := hI.bw h0 h1
  have wk := hF.wat hI bp
  have wf := hR.watS hI bp
  obtain ⟨-, wo, wm⟩ := hR.wat hI ht bp
  have dp := hI.dp wo wm
  have bo := hI.2.2.2.1 k h0 h1
  unfold rBo at bo
  show JX _ _ _ _ _ _ _ _ _ _ _ [_, _, _] _ _
  refine x_iload_n dX2_propertyOf_0 rfl ?_
  refine x_switch (tgt := 101) dX2_propertyOf_1 ⟨by omega, by omega⟩ (by decide) (by decide) ?_
  refine x_aload_n dX2_propertyOf_101 rfl ?_
  refine gf_RX2_116 dX2_propertyOf_102 rfl (by assumption) ?_
  exact x_ireturn dX2_propertyOf_105 rfl rfl ⟨Nat.le_refl _, Nat.le_refl _⟩ ⟨by rw [e7], rfl, rfl⟩
theorem kX2_propertyOf_n {G : JG} {S : JS} {D : JD} {d : Nat} {b t : Int} {r : Int → Int} {k e : Int} (re : i32 e) (he : e < 0 ∨ 8 < e) : JM G yX2_propertyOf cX2_propertyOf 3 (some .int) (d + 4) (0, 0) S D [.inr (.inr (some b)), .inr (.inr (some (b + 29 + k))), .inl e] (jr (.inl (-100000002)) S D) := by
  show JX _ _ _ _ _ _ _ _ _ _ _ [_, _, _] _ _
  refine x_iload_n dX2_propertyOf_0 rfl ?_
  refine x_switch (tgt := 106) dX2_propertyOf_1 re (by rw [if_pos he]; rfl) (by decide) ?_
  refine x_ldc (e := -100000002) dX2_propertyOf_106 ct_RX2_146 (by decide) ?_
  exact x_ireturn dX2_propertyOf_108 rfl rfl ⟨Nat.le_refl _, Nat.le_refl _⟩ ⟨rfl, rfl, rfl⟩
