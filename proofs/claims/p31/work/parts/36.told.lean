/-! WHAT IS TOLD -/
def tWat (r : Int → Int) (p e : Int) : Int := if e = 0 then sLv r p else if e = 1 then r (wA p + 2) else if e = 2 then sFl r p else if e = 3 then sCn r p else if e = 4 then r (wA p) else if e = 5 then r (wA p + 1) else -100000002
def tBar (r : Int → Int) (k e : Int) : Int := if e = 0 then r (65 + 8 * k) else if e = 1 then sW r k else if e = 2 then sDr r k else if e = 3 then r (69 + 8 * k) else if e = 4 then r (70 + 8 * k) else if e = 5 then r (68 + 8 * k) - r (69 + 8 * k) - r (70 + 8 * k) else if e = 6 then (if sDp r (r (71 + 8 * k)) < sDr r k then 1 else 0) else if e = 7 then r (71 + 8 * k) else if e = 8 then r (72 + 8 * k) else -100000002
theorem kR_property {G : JG} {S : JS} {D : JD} {d : Nat} {b t p e : Int} {r : Int → Int} (hF : jFl S b) (hR : jFR D b r) (hI : rIn t r) (ht : t ≤ 60000) (hp : rPl r p) (re : i32 e) : JM G yX6_property cX6_property 2 (some .int) (d + 4) (0, 0) S D [.inr (.inr (some (sWa b p))), .inl e] (jr (.inl (tWat r p e)) S D) := by
  have wk := hF.wat hI hp
  obtain ⟨⟨w0, w1, w2, w3, w4⟩, -⟩ := hR.wat hI ht hp
  obtain ⟨h1, h2, h3, h4, -⟩ := hR.wok hI ht hp
  by_cases q : e < 0 ∨ 5 < e
  · have e1 : tWat r p e = -100000002 := by
      unfold tWat
      rw [if_neg (by omega), if_neg (by omega), if_neg (by omega), if_neg (by omega), if_neg (by omega), if_neg (by omega)]
    rw [e1]
    exact kX6_property_n re q
  · have q2 : e = 0 ∨ e = 1 ∨ e = 2 ∨ e = 3 ∨ e = 4 ∨ e = 5 := by omega
    rcases q2 with rfl | rfl | rfl | rfl | rfl | rfl
    · rw [show tWat r p 0 = sLv r p from rfl, ← h4]; exact kX6_property_0 wk h1 h2 h3
    · rw [show tWat r p 1 = r (wA p + 2) from rfl, ← w2]; exact kX6_property_1 wk
    · rw [show tWat r p 2 = sFl r p from rfl, ← w3]; exact kX6_property_2 wk
    · rw [show tWat r p 3 = sCn r p from rfl, ← w4]; exact kX6_property_3 wk
    · rw [show tWat r p 4 = r (wA p) from rfl, ← w0]; exact kX6_property_4 wk
    · rw [show tWat r p 5 = r (wA p + 1) from rfl, ← w1]; exact kX6_property_5 wk
theorem kR_propertyOf {G : JG} {S : JS} {D : JD} {d : Nat} {b t k e : Int} {r : Int → Int} (hF : jFl S b) (hR : jFR D b r) (hI : rIn t r) (ht : t ≤ 60000) (h0 : 0 ≤ k) (h1 : k < r 2) (re : i32 e) : JM G yX2_propertyOf cX2_propertyOf 3 (some .int) (d + 4) (0, 0) S D [.inr (.inr (some b)), .inr (.inr (some (b + 29 + k))), .inl e] (jr (.inl (tBar r k e)) S D) := by
  by_cases q : e < 0 ∨ 8 < e
  · have e1 : tBar r k e = -100000002 := by
      unfold tBar
      rw [if_neg (by omega), if_neg (by omega), if_neg (by omega), if_neg (by omega), if_neg (by omega), if_neg (by omega), if_neg (by omega), if_neg (by omega), if_neg (by omega)]
    rw [e1]
    exact kX2_propertyOf_n (r := r) (t := t) re q
  · have q2 : e = 0 ∨ e = 1 ∨ e = 2 ∨ e = 3 ∨ e = 4 ∨ e = 5 ∨ e = 6 ∨ e = 7 ∨ e = 8 := by omega
    rcases q2 with rfl | rfl | rfl | rfl | rfl | rfl | rfl | rfl | rfl
    · exact kX2_propertyOf_0 hF hR hI ht h0 h1
    · exact kX2_propertyOf_1 hF hR hI ht h0 h1
    · exact kX2_propertyOf_2 hF hR hI ht h0 h1
    · exact kX2_propertyOf_3 hF hR hI ht h0 h1
    · exact kX2_propertyOf_4 hF hR hI ht h0 h1
    · exact kX2_propertyOf_5 hF hR hI ht h0 h1
    · exact kX2_propertyOf_6 hF hR hI ht h0 h1
    · exact kX2_propertyOf_7 hF hR hI ht h0 h1
    · exact kX2_propertyOf_8 hF hR hI ht h0 h1
def zReach (i e : Int) (r : Int → Int) : Int := if 0 ≤ i ∧ i < r 0 then tWat r i e else -100000001
def zBarge (k e : Int) (r : Int → Int) : Int := if 0 ≤ k ∧ k < r 2 then tBar r k e else -100000001
def zLying (c k : Int) (r : Int → Int) : Int := if 0 ≤ c ∧ c < r 1 then (if k < 0 then -100000002 else if k < r (161 + 13 * c) then r (162 + 13 * c + k) else -100000005) else -100000001
def zFlow (c g : Int) (r : Int → Int) : Int := if (0 ≤ c ∧ c < r 1) ∧ (g = 0 ∨ g = 1) then sShd r c g - r (23 + 11 * c) else -100000001
def tCh (r : Int → Int) (c e : Int) : Int := if e = 6 then r (24 + 11 * c) else if e = 7 then sLf r c else if e = 8 then r (29 + 11 * c) else if e = 9 then sHg r c 0 else if e = 10 then sHg r c 1 else if e = 11 then r (30 + 11 * c) else if e = 12 then r (31 + 11 * c) else tWat r (100 + c) e
def zChamber (c e : Int) (r : Int → Int) : Int := if 0 ≤ c ∧ c < r 1 then tCh r c e else -100000001
theorem kX7_reach_u {G : JG} {S : JS} {D : JD} {d : Nat} {X t cz n q : Int} {hs : Int → Int → Int} {r : Int → Int} {i e : Int} (hB : jBL S X) (hst : jSt D X t cz n hs r q) (ht : t ≤ 60000) (ri : i32 i) (h : ¬ (0 ≤ i ∧ i < r 0)) : JM G yX7_reach cX7_reach 4 (some .int) (d + 5) (0, 0) S D [.inr (.inr (some X)), .inl i, .inl e] (jr (.inl (-100000001)) S D) := by
  have hB0 := hB
  obtain ⟨bk, bf, bh, bs, bo, hF, hH, sk, sl, ok, ot, tk, tl⟩ := id hB
  have fk := hF.1
  have hhk := hH.1
  obtain ⟨s5, s4, hR, hI, hi⟩ := id hst
  have hc := hR.ct hI
  have b1 := hI.1
  have n0 := hR.1.1
  have n1 := hR.1.2.1
  have n2 := hR.1.2.2.1
  show JX _ _ _ _ _ _ _ _ _ _ _ [_, _, _, _] _ _
  refine x_aload_n dX7_reach_0 rfl ?_
  refine gf_RX7_10 dX7_reach_1 rfl (by assumption) ?_
  rw [bf]
  refine x_iload_n dX7_reach_4 rfl ?_
  refine c_RX7_91d dX7_reach_5 rfl (kX2_reachAt_n hF hc ri (by omega)) (by assumption) (Nat.le_of_ble_eq_true rfl) (Nat.le_of_ble_eq_true rfl) ⟨Nat.le_refl _, Nat.le_refl _⟩ ?_
  refine x_astore_n dX7_reach_8 (by decide) ?_
  show JX _ _ _ _ _ _ _ _ _ _ _ [_, _, _, _] _ _
  refine x_aload_n dX7_reach_9 rfl ?_
  refine x_ifnonnull (tgt := 16) dX7_reach_10 (by decide) (fun h => absurd rfl h) (fun hb10 => ?_)
  refine x_ldc (e := -100000001) dX7_reach_13 ct_RX7_78 (by decide) ?_
  exact x_ireturn dX7_reach_15 rfl rfl ⟨Nat.le_refl _, Nat.le_refl _⟩ ⟨rfl, rfl, rfl⟩
theorem kX7_reach_y {G : JG} {S : JS} {D : JD} {d : Nat} {X t cz n q : Int} {hs : Int → Int → Int} {r : Int → Int} {i e : Int} (hB : jBL S X) (hst : jSt D X t cz n hs r q) (ht : t ≤ 60000) (re : i32 e) (h : 0 ≤ i ∧ i < r 0) : JM G yX7_reach cX7_reach 4 (some .int) (d + 5) (0, 0) S D [.inr (.inr (some X)), .inl i, .inl e] (jr (.inl (tWat r i e)) S D) := by
  have hB0 := hB
  obtain ⟨bk, bf, bh, bs, bo, hF, hH, sk, sl, ok, ot, tk, tl⟩ := id hB
  have fk := hF.1
  have hhk := hH.1
  obtain ⟨s5, s4, hR, hI, hi⟩ := id hst
  have hc := hR.ct hI
  have b1 := hI.1
  have n0 := hR.1.1
  have n1 := hR.1.2.1
  have n2 := hR.1.2.2.1
  have wp : rPl r i := Or.inl h
  have we : sWa (X + 1) i = X + 1 + 4 + i := by unfold sWa; rw [if_pos (by omega)]
  have wk := hF.wat hI wp
  rw [we] at wk
  have kp := kR_property (G := G) (d := d) hF hR hI (by omega) wp re
  rw [we] at kp
  show JX _ _ _ _ _ _ _ _ _ _ _ [_, _, _, _] _ _
  refine x_aload_n dX7_reach_0 rfl ?_
  refine gf_RX7_10 dX7_reach_1 rfl (by assumption) ?_
  rw [bf]
  refine x_iload_n dX7_reach_4 rfl ?_
  refine c_RX7_91d dX7_reach_5 rfl (kX2_reachAt_y hF hc (by omega)) (by assumption) (Nat.le_of_ble_eq_true rfl) (Nat.le_of_ble_eq_true rfl) ⟨Nat.le_refl _, Nat.le_refl _⟩ ?_
  refine x_astore_n dX7_reach_8 (by decide) ?_
  show JX _ _ _ _ _ _ _ _ _ _ _ [_, _, _, _] _ _
  refine x_aload_n dX7_reach_9 rfl ?_
  refine x_ifnonnull (tgt := 16) dX7_reach_10 (by decide) (fun hb10 => ?_) (fun h => by cases h)
  refine x_aload_n dX7_reach_16 rfl ?_
  refine x_iload_n dX7_reach_17 rfl ?_
  refine c_RX7_255d dX7_reach_18 rfl (kp) (by assumption) (Nat.le_of_ble_eq_true rfl) (Nat.le_of_ble_eq_true rfl) ⟨Nat.le_refl _, Nat.le_refl _⟩ ?_
  exact x_ireturn dX7_reach_21 rfl rfl ⟨Nat.le_refl _, Nat.le_refl _⟩ ⟨rfl, rfl, rfl⟩
theorem kX7_reach {G : JG} {S : JS} {D : JD} {d : Nat} {X t cz n q : Int} {hs : Int → Int → Int} {r : Int → Int} {i e : Int} (hB : jBL S X) (hst : jSt D X t cz n hs r q) (ht : t ≤ 60000) (ri : i32 i) (re : i32 e) : JM G yX7_reach cX7_reach 4 (some .int) (d + 5) (0, 0) S D [.inr (.inr (some X)), .inl i, .inl e] (jr (.inl (zReach i e r)) S D) := by
  unfold zReach
  by_cases h : 0 ≤ i ∧ i < r 0
  · rw [if_pos h]; exact kX7_reach_y hB hst ht re h
  · rw [if_neg h]; exact kX7_reach_u hB hst ht ri h
theorem kX7_barge_u {G : JG} {S : JS} {D : JD} {d : Nat} {X t cz n q : Int} {hs : Int → Int → Int} {r : Int → Int} {k e : Int} (hB : jBL S X) (hst : jSt D X t cz n hs r q) (ht : t ≤ 60000) (rk : i32 k) (h : ¬ (0 ≤ k ∧ k < r 2)) : JM G yX7_barge cX7_barge 4 (some .int) (d + 5) (0, 0) S D [.inr (.inr (some X)), .inl k, .inl e] (jr (.inl (-100000001)) S D) := by
  have hB0 := hB
  obtain ⟨bk, bf, bh, bs, bo, hF, hH, sk, sl, ok, ot, tk, tl⟩ := id hB
  have fk := hF.1
  have hhk := hH.1
  obtain ⟨s5, s4, hR, hI, hi⟩ := id hst
  have hc := hR.ct hI
  have b1 := hI.1
  have n0 := hR.1.1
  have n1 := hR.1.2.1
  have n2 := hR.1.2.2.1
  show JX _ _ _ _ _ _ _ _ _ _ _ [_, _, _, _] _ _
  refine x_aload_n dX7_barge_0 rfl ?_
  refine gf_RX7_10 dX7_barge_1 rfl (by assumption) ?_
  rw [bf]
  refine x_iload_n dX7_barge_4 rfl ?_
  refine c_RX7_123d dX7_barge_5 rfl (kX2_bargeAt_n hF hc rk (by omega)) (by assumption) (Nat.le_of_ble_eq_true rfl) (Nat.le_of_ble_eq_true rfl) ⟨Nat.le_refl _, Nat.le_refl _⟩ ?_
  refine x_astore_n dX7_barge_8 (by decide) ?_
  show JX _ _ _ _ _ _ _ _ _ _ _ [_, _, _, _] _ _
  refine x_aload_n dX7_barge_9 rfl ?_
  refine x_ifnonnull (tgt := 16) dX7_barge_10 (by decide) (fun h => absurd rfl h) (fun hb10 => ?_)
  refine x_ldc (e := -100000001) dX7_barge_13 ct_RX7_78 (by decide) ?_
  exact x_ireturn dX7_barge_15 rfl rfl ⟨Nat.le_refl _, Nat.le_refl _⟩ ⟨rfl, rfl, rfl⟩
theorem kX7_barge_y {G : JG} {S : JS} {D : JD} {d : Nat} {X t cz n q : Int} {hs : Int → Int → Int} {r : Int → Int} {k e : Int} (hB : jBL S X) (hst : jSt D X t cz n hs r q) (ht : t ≤ 60000) (re : i32 e) (h : 0 ≤ k ∧ k < r 2) : JM G yX7_barge cX7_barge 4 (some .int) (d + 5) (0, 0) S D [.inr (.inr (some X)), .inl k, .inl e] (jr (.inl (tBar r k e)) S D) := by
  have hB0 := hB
  obtain ⟨bk, bf, bh, bs, bo, hF, hH, sk, sl, ok, ot, tk, tl⟩ := id hB
  have fk := hF.1
  have hhk := hH.1
  obtain ⟨s5, s4, hR, hI, hi⟩ := id hst
  have hc := hR.ct hI
  have b1 := hI.1
  have n0 := hR.1.1
  have n1 := hR.1.2.1
  have n2 := hR.1.2.2.1
  show JX _ _ _ _ _ _ _ _ _ _ _ [_, _, _, _] _ _
  refine x_aload_n dX7_barge_0 rfl ?_
  refine gf_RX7_10 dX7_barge_1 rfl (by assumption) ?_
  rw [bf]
  refine x_iload_n dX7_barge_4 rfl ?_
  refine c_RX7_123d dX7_barge_5 rfl (kX2_bargeAt_y hF hc (by omega)) (by assumption) (Nat.le_of_ble_eq_true rfl) (Nat.le_of_ble_eq_true rfl) ⟨Nat.le_refl _, Nat.le_refl _⟩ ?_
  refine x_astore_n dX7_barge_8 (by decide) ?_
  show JX _ _ _ _ _ _ _ _ _ _ _ [_, _, _, _] _ _
  refine x_aload_n dX7_barge_9 rfl ?_
  refine x_ifnonnull (tgt := 16) dX7_barge_10 (by decide) (fun hb10 => ?_) (fun h => by cases h)
  refine x_aload_n dX7_barge_16 rfl ?_
  refine gf_RX7_10 dX7_barge_17 rfl (by assumption) ?_
  rw [bf]
  refine x_aload_n dX7_barge_20 rfl ?_
  refine x_iload_n dX7_barge_21 rfl ?_
  refine c_RX7_275d dX7_barge_22 rfl (kR_propertyOf hF hR hI (by omega) h.1 h.2 re) (by assumption) (Nat.le_of_ble_eq_true rfl) (Nat.le_of_ble_eq_true rfl) ⟨Nat.le_refl _, Nat.le_refl _⟩ ?_
  exact x_ireturn dX7_barge_25 rfl rfl ⟨Nat.le_refl _, Nat.le_refl _⟩ ⟨rfl, rfl, rfl⟩
theorem kX7_barge {G : JG} {S : JS} {D : JD} {d : Nat} {X t cz n q : Int} {hs : Int → Int → Int} {r : Int → Int} {k e : Int} (hB : jBL S X) (hst : jSt D X t cz n hs r q) (ht : t ≤ 60000) (rk : i32 k) (re : i32 e) : JM G yX7_barge cX7_barge 4 (some .int) (d + 5) (0, 0) S D [.inr (.inr (some X)), .inl k, .inl e] (jr (.inl (zBarge k e r)) S D) := by
  unfold zBarge
  by_cases h : 0 ≤ k ∧ k < r 2
  · rw [if_pos h]; exact kX7_barge_y hB hst ht re h
  · rw [if_neg h]; exact kX7_barge_u hB hst ht rk h
theorem kX7_lying_u {G : JG} {S : JS} {D : JD} {d : Nat} {X t cz n q : Int} {hs : Int → Int → Int} {r : Int → Int} {c k : Int} (hB : jBL S X) (hst : jSt D X t cz n hs r q) (ht : t ≤ 60000) (rc : i32 c) (h : ¬ (0 ≤ c ∧ c < r 1)) : JM G yX7_lying cX7_lying 5 (some .int) (d + 1) (0, 0) S D [.inr (.inr (some X)), .inl c, .inl k] (jr (.inl (-100000001)) S D) := by
  have hB0 := hB
  obtain ⟨bk, bf, bh, bs, bo, hF, hH, sk, sl, ok, ot, tk, tl⟩ := id hB
  have fk := hF.1
  have hhk := hH.1
  obtain ⟨s5, s4, hR, hI, hi⟩ := id hst
  have hc := hR.ct hI
  have b1 := hI.1
  have n0 := hR.1.1
  have n1 := hR.1.2.1
  have n2 := hR.1.2.2.1
  show JX _ _ _ _ _ _ _ _ _ _ _ [_, _, _, _, _] _ _
  refine x_aload_n dX7_lying_0 rfl ?_
  refine gf_RX7_10 dX7_lying_1 rfl (by assumption) ?_
  rw [bf]
  refine x_iload_n dX7_lying_4 rfl ?_
  refine c_RX7_159d dX7_lying_5 rfl (kX2_chamberAt_n hF hc rc (by omega)) (by assumption) (Nat.le_of_ble_eq_true rfl) (Nat.le_of_ble_eq_true rfl) ⟨Nat.le_refl _, Nat.le_refl _⟩ ?_
  refine x_astore_n dX7_lying_8 (by decide) ?_
  show JX _ _ _ _ _ _ _ _ _ _ _ [_, _, _, _, _] _ _
  refine x_aload_n dX7_lying_9 rfl ?_
  refine x_ifnonnull (tgt := 16) dX7_lying_10 (by decide) (fun h => absurd rfl h) (fun hb10 => ?_)
  refine x_ldc (e := -100000001) dX7_lying_13 ct_RX7_78 (by decide) ?_
  exact x_ireturn dX7_lying_15 rfl rfl ⟨Nat.le_refl _, Nat.le_refl _⟩ ⟨rfl, rfl, rfl⟩
theorem kX7_lying_b {G : JG} {S : JS} {D : JD} {d : Nat} {X t cz n q : Int} {hs : Int → Int → Int} {r : Int → Int} {c k : Int} (hB : jBL S X) (hst : jSt D X t cz n hs r q) (ht : t ≤ 60000) (rk : i32 k) (h : 0 ≤ c ∧ c < r 1) (hk : k < 0) : JM G yX7_lying cX7_lying 5 (some .int) (d + 1) (0, 0) S D [.inr (.inr (some X)), .inl c, .inl k] (jr (.inl (-100000002)) S D) := by
  have hB0 := hB
  obtain ⟨bk, bf, bh, bs, bo, hF, hH, sk, sl, ok, ot, tk, tl⟩ := id hB
  have fk := hF.1
  have hhk := hH.1
  obtain ⟨s5, s4, hR, hI, hi⟩ := id hst
  have hc := hR.ct hI
  have b1 := hI.1
  have n0 := hR.1.1
  have n1 := hR.1.2.1
  have n2 := hR.1.2.2.1
  have hC := (hF.2.2.2.2.2.2.2.2.2.2.2.1 c h.1 (by omega)).2
  have ck := hC.1
  have hln := hI.line h.1 h.2
  have hgt := hI.gates c h.1 h.2
  obtain ⟨s5, s6, s7, s4, sr, q1, q2, q3, q4, q5, q6⟩ := (hR.2.2.1 c h.1 h.2).2
  show JX _ _ _ _ _ _ _ _ _ _ _ [_, _, _, _, _] _ _
  refine x_aload_n dX7_lying_0 rfl ?_
  refine gf_RX7_10 dX7_lying_1 rfl (by assumption) ?_
  rw [bf]
  refine x_iload_n dX7_lying_4 rfl ?_
  refine c_RX7_159d dX7_lying_5 rfl (kX2_chamberAt_y hF hc (by omega)) (by assumption) (Nat.le_of_ble_eq_true rfl) (Nat.le_of_ble_eq_true rfl) ⟨Nat.le_refl _, Nat.le_refl _⟩ ?_
  refine x_astore_n dX7_lying_8 (by decide) ?_
  show JX _ _ _ _ _ _ _ _ _ _ _ [_, _, _, _, _] _ _
  refine x_aload_n dX7_lying_9 rfl ?_
  refine x_ifnonnull (tgt := 16) dX7_lying_10 (by decide) (fun hb10 => ?_) (fun h => by cases h)
  refine x_iload_n dX7_lying_16 rfl ?_
  refine x_if_ge (tgt := 23) dX7_lying_17 (by decide) ⟨by omega, by omega⟩ (fun h => absurd h (by omega)) (fun hb17 => ?_)
  refine x_ldc (e := -100000002) dX7_lying_20 ct_RX7_46 (by decide) ?_
  exact x_ireturn dX7_lying_22 rfl rfl ⟨Nat.le_refl _, Nat.le_refl _⟩ ⟨rfl, rfl, rfl⟩
theorem kX7_lying_n {G : JG} {S : JS} {D : JD} {d : Nat} {X t cz n q : Int} {hs : Int → Int → Int} {r : Int → Int} {c k : Int} (hB : jBL S X) (hst : jSt D X t cz n hs r q) (ht : t ≤ 60000) (rk : i32 k) (h : 0 ≤ c ∧ c < r 1) (hk : ¬ k < 0) (hn : ¬ k < r (161 + 13 * c)) : JM G yX7_lying cX7_lying 5 (some .int) (d + 1) (0, 0) S D [.inr (.inr (some X)), .inl c, .inl k] (jr (.inl (-100000005)) S D) := by
  have hB0 := hB
  obtain ⟨bk, bf, bh, bs, bo, hF, hH, sk, sl, ok, ot, tk, tl⟩ := id hB
  have fk := hF.1
  have hhk := hH.1
  obtain ⟨s5, s4, hR, hI, hi⟩ := id hst
  have hc := hR.ct hI
  have b1 := hI.1
  have n0 := hR.1.1
  have n1 := hR.1.2.1
  have n2 := hR.1.2.2.1
  have hC := (hF.2.2.2.2.2.2.2.2.2.2.2.1 c h.1 (by omega)).2
  have ck := hC.1
  have hln := hI.line h.1 h.2
  have hgt := hI.gates c h.1 h.2
  obtain ⟨s5, s6, s7, s4, sr, q1, q2, q3, q4, q5, q6⟩ := (hR.2.2.1 c h.1 h.2).2
  show JX _ _ _ _ _ _ _ _ _ _ _ [_, _, _, _, _] _ _
  refine x_aload_n dX7_lying_0 rfl ?_
  refine gf_RX7_10 dX7_lying_1 rfl (by assumption) ?_
  rw [bf]
  refine x_iload_n dX7_lying_4 rfl ?_
  refine c_RX7_159d dX7_lying_5 rfl (kX2_chamberAt_y hF hc (by omega)) (by assumption) (Nat.le_of_ble_eq_true rfl) (Nat.le_of_ble_eq_true rfl) ⟨Nat.le_refl _, Nat.le_refl _⟩ ?_
  refine x_astore_n dX7_lying_8 (by decide) ?_
  show JX _ _ _ _ _ _ _ _ _ _ _ [_, _, _, _, _] _ _
  refine x_aload_n dX7_lying_9 rfl ?_
  refine x_ifnonnull (tgt := 16) dX7_lying_10 (by decide) (fun hb10 => ?_) (fun h => by cases h)
  refine x_iload_n dX7_lying_16 rfl ?_
  refine x_if_ge (tgt := 23) dX7_lying_17 (by decide) ⟨by omega, by omega⟩ (fun hb17 => ?_) (fun h => (h (by omega)).elim)
  refine x_aload_n dX7_lying_23 rfl ?_
  refine x_iload_n dX7_lying_24 rfl ?_
  refine c_RX7_272d dX7_lying_25 rfl (kX1_bargeIn_n hC rk (by omega) (by omega)) (by assumption) (Nat.le_of_ble_eq_true rfl) (Nat.le_of_ble_eq_true rfl) ⟨Nat.le_refl _, Nat.le_refl _⟩ ?_
  refine x_istore dX7_lying_28 (by decide) ?_
  show JX _ _ _ _ _ _ _ _ _ _ _ [_, _, _, _, _] _ _
  refine x_iload dX7_lying_30 rfl ?_
  refine x_iconst dX7_lying_32 ?_
  refine x_ic_ne (tgt := 41) dX7_lying_33 (by decide) ⟨by omega, by omega⟩ ⟨by omega, by omega⟩ (fun h => absurd h (by omega)) (fun hb33 => ?_)
  refine x_ldc (e := -100000005) dX7_lying_36 ct_RX7_90 (by decide) ?_
  refine x_goto (tgt := 43) dX7_lying_38 (by decide) ?_
  exact x_ireturn dX7_lying_43 rfl rfl ⟨Nat.le_refl _, Nat.le_refl _⟩ ⟨rfl, rfl, rfl⟩
theorem kX7_lying_y {G : JG} {S : JS} {D : JD} {d : Nat} {X t cz n q : Int} {hs : Int → Int → Int} {r : Int → Int} {c k : Int} (hB : jBL S X) (hst : jSt D X t cz n hs r q) (ht : t ≤ 60000) (rk : i32 k) (h : 0 ≤ c ∧ c < r 1) (hk : ¬ k < 0) (hn : k < r (161 + 13 * c)) : JM G yX7_lying cX7_lying 5 (some .int) (d + 1) (0, 0) S D [.inr (.inr (some X)), .inl c, .inl k] (jr (.inl (r (162 + 13 * c + k))) S D) := by
  have hB0 := hB
  obtain ⟨bk, bf, bh, bs, bo, hF, hH, sk, sl, ok, ot, tk, tl⟩ := id hB
  have fk := hF.1
  have hhk := hH.1
  obtain ⟨s5, s4, hR, hI, hi⟩ := id hst
  have hc := hR.ct hI
  have b1 := hI.1
  have n0 := hR.1.1
  have n1 := hR.1.2.1
  have n2 := hR.1.2.2.1
  have hC := (hF.2.2.2.2.2.2.2.2.2.2.2.1 c h.1 (by omega)).2
  have ck := hC.1
  have hln := hI.line h.1 h.2
  have hgt := hI.gates c h.1 h.2
  obtain ⟨s5, s6, s7, s4, sr, q1, q2, q3, q4, q5, q6⟩ := (hR.2.2.1 c h.1 h.2).2
  have hl := (hI.lines h.1 h.2).1 k (by omega) hn
  show JX _ _ _ _ _ _ _ _ _ _ _ [_, _, _, _, _] _ _
  refine x_aload_n dX7_lying_0 rfl ?_
  refine gf_RX7_10 dX7_lying_1 rfl (by assumption) ?_
  rw [bf]
  refine x_iload_n dX7_lying_4 rfl ?_
  refine c_RX7_159d dX7_lying_5 rfl (kX2_chamberAt_y hF hc (by omega)) (by assumption) (Nat.le_of_ble_eq_true rfl) (Nat.le_of_ble_eq_true rfl) ⟨Nat.le_refl _, Nat.le_refl _⟩ ?_
  refine x_astore_n dX7_lying_8 (by decide) ?_
  show JX _ _ _ _ _ _ _ _ _ _ _ [_, _, _, _, _] _ _
  refine x_aload_n dX7_lying_9 rfl ?_
  refine x_ifnonnull (tgt := 16) dX7_lying_10 (by decide) (fun hb10 => ?_) (fun h => by cases h)
  refine x_iload_n dX7_lying_16 rfl ?_
  refine x_if_ge (tgt := 23) dX7_lying_17 (by decide) ⟨by omega, by omega⟩ (fun hb17 => ?_) (fun h => (h (by omega)).elim)
  refine x_aload_n dX7_lying_23 rfl ?_
  refine x_iload_n dX7_lying_24 rfl ?_
  refine c_RX7_272d dX7_lying_25 rfl (kX1_bargeIn_y hC (by omega) (by omega) (by omega)) (by assumption) (Nat.le_of_ble_eq_true rfl) (Nat.le_of_ble_eq_true rfl) ⟨Nat.le_refl _, Nat.le_refl _⟩ ?_
  rw [sr k (by omega) hn]
  refine x_istore dX7_lying_28 (by decide) ?_
  show JX _ _ _ _ _ _ _ _ _ _ _ [_, _, _, _, _] _ _
  refine x_iload dX7_lying_30 rfl ?_
  refine x_iconst dX7_lying_32 ?_
  refine x_ic_ne (tgt := 41) dX7_lying_33 (by decide) ⟨by omega, by omega⟩ ⟨by omega, by omega⟩ (fun hb33 => ?_) (fun h => (h (by omega)).elim)
  refine x_iload dX7_lying_41 rfl ?_
  exact x_ireturn dX7_lying_43 rfl rfl ⟨Nat.le_refl _, Nat.le_refl _⟩ ⟨rfl, rfl, rfl⟩
theorem kX7_lying {G : JG} {S : JS} {D : JD} {d : Nat} {X t cz n q : Int} {hs : Int → Int → Int} {r : Int → Int} {c k : Int} (hB : jBL S X) (hst : jSt D X t cz n hs r q) (ht : t ≤ 60000) (rc : i32 c) (rk : i32 k) : JM G yX7_lying cX7_lying 5 (some .int) (d + 1) (0, 0) S D [.inr (.inr (some X)), .inl c, .inl k] (jr (.inl (zLying c k r)) S D) := by
  unfold zLying
  by_cases h : 0 ≤ c ∧ c < r 1
  · rw [if_pos h]; (
    by_cases hk : k < 0
    · rw [if_pos hk]; exact kX7_lying_b hB hst ht rk h hk
    · rw [if_neg hk]
      by_cases hn : k < r (161 + 13 * c)
      · rw [if_pos hn]; exact kX7_lying_y hB hst ht rk h hk hn
      · rw [if_neg hn]; exact kX7_lying_n hB hst ht rk h hk hn)
  · rw [if_neg h]; exact kX7_lying_u hB hst ht rc h
theorem kX7_flow_u1 {G : JG} {S : JS} {D : JD} {d : Nat} {X t cz n q : Int} {hs : Int → Int → Int} {r : Int → Int} {c g : Int} (hB : jBL S X) (hst : jSt D X t cz n hs r q) (ht : t ≤ 60000) (rc : i32 c) (rg : i32 g) (h : ¬ (0 ≤ c ∧ c < r 1)) : JM G yX7_flow cX7_flow 5 (some .int) (d + 3) (0, 0) S D [.inr (.inr (some X)), .inl c, .inl g] (jr (.inl (-100000001)) S D) := by
  have hB0 := hB
  obtain ⟨bk, bf, bh, bs, bo, hF, hH, sk, sl, ok, ot, tk, tl⟩ := id hB
  have fk := hF.1
  have hhk := hH.1
  obtain ⟨s5, s4, hR, hI, hi⟩ := id hst
  have hc := hR.ct hI
  have b1 := hI.1
  have n0 := hR.1.1
  have n1 := hR.1.2.1
  have n2 := hR.1.2.2.1
  show JX _ _ _ _ _ _ _ _ _ _ _ [_, _, _, _, _] _ _
  refine x_aload_n dX7_flow_0 rfl ?_
  refine gf_RX7_10 dX7_flow_1 rfl (by assumption) ?_
  rw [bf]
  refine x_iload_n dX7_flow_4 rfl ?_
  refine c_RX7_159d dX7_flow_5 rfl (kX2_chamberAt_n hF hc rc (by omega)) (by assumption) (Nat.le_of_ble_eq_true rfl) (Nat.le_of_ble_eq_true rfl) ⟨Nat.le_refl _, Nat.le_refl _⟩ ?_
  refine x_astore_n dX7_flow_8 (by decide) ?_
  show JX _ _ _ _ _ _ _ _ _ _ _ [_, _, _, _, _] _ _
  refine x_aload_n dX7_flow_9 rfl ?_
  refine gf_RX7_10 dX7_flow_10 rfl (by assumption) ?_
  rw [bf]
  refine x_iload_n dX7_flow_13 rfl ?_
  refine x_iload_n dX7_flow_14 rfl ?_
  refine c_RX7_163d dX7_flow_15 rfl (kX2_reachBehind hF hc rc rg) (by assumption) (Nat.le_of_ble_eq_true rfl) (Nat.le_of_ble_eq_true rfl) ⟨Nat.le_refl _, Nat.le_refl _⟩ ?_
  refine x_astore dX7_flow_18 (by decide) ?_
  show JX _ _ _ _ _ _ _ _ _ _ _ [_, _, _, _, _] _ _
  refine x_aload_n dX7_flow_20 rfl ?_
  refine x_ifnull (tgt := 29) dX7_flow_21 (by decide) (fun hb21 => ?_) (fun h => absurd rfl h)
  refine x_ldc (e := -100000001) dX7_flow_29 ct_RX7_78 (by decide) ?_
  exact x_ireturn dX7_flow_31 rfl rfl ⟨Nat.le_refl _, Nat.le_refl _⟩ ⟨rfl, rfl, rfl⟩
theorem kX7_flow_u2 {G : JG} {S : JS} {D : JD} {d : Nat} {X t cz n q : Int} {hs : Int → Int → Int} {r : Int → Int} {c g : Int} (hB : jBL S X) (hst : jSt D X t cz n hs r q) (ht : t ≤ 60000) (h : 0 ≤ c ∧ c < r 1) (rg : i32 g) (hg : ¬ (g = 0 ∨ g = 1)) : JM G yX7_flow cX7_flow 5 (some .int) (d + 3) (0, 0) S D [.inr (.inr (some X)), .inl c, .inl g] (jr (.inl (-100000001)) S D) := by
  have hB0 := hB
  obtain ⟨bk, bf, bh, bs, bo, hF, hH, sk, sl, ok, ot, tk, tl⟩ := id hB
  have fk := hF.1
  have hhk := hH.1
  obtain ⟨s5, s4, hR, hI, hi⟩ := id hst
  have hc := hR.ct hI
  have b1 := hI.1
  have n0 := hR.1.1
  have n1 := hR.1.2.1
  have n2 := hR.1.2.2.1
  show JX _ _ _ _ _ _ _ _ _ _ _ [_, _, _, _, _] _ _
  refine x_aload_n dX7_flow_0 rfl ?_
  refine gf_RX7_10 dX7_flow_1 rfl (by assumption) ?_
  rw [bf]
  refine x_iload_n dX7_flow_4 rfl ?_
  refine c_RX7_159d dX7_flow_5 rfl (kX2_chamberAt_y hF hc (by omega)) (by assumption) (Nat.le_of_ble_eq_true rfl) (Nat.le_of_ble_eq_true rfl) ⟨Nat.le_refl _, Nat.le_refl _⟩ ?_
  refine x_astore_n dX7_flow_8 (by decide) ?_
  show JX _ _ _ _ _ _ _ _ _ _ _ [_, _, _, _, _] _ _
  refine x_aload_n dX7_flow_9 rfl ?_
  refine gf_RX7_10 dX7_flow_10 rfl (by assumption) ?_
  rw [bf]
  refine x_iload_n dX7_flow_13 rfl ?_
  refine x_iload_n dX7_flow_14 rfl ?_
  refine c_RX7_163d dX7_flow_15 rfl (kX2_reachBehind_n hF hc ⟨by omega, by omega⟩ rg (by omega)) (by assumption) (Nat.le_of_ble_eq_true rfl) (Nat.le_of_ble_eq_true rfl) ⟨Nat.le_refl _, Nat.le_refl _⟩ ?_
  refine x_astore dX7_flow_18 (by decide) ?_
  show JX _ _ _ _ _ _ _ _ _ _ _ [_, _, _, _, _] _ _
  refine x_aload_n dX7_flow_20 rfl ?_
  refine x_ifnull (tgt := 29) dX7_flow_21 (by decide) (fun h => by cases h) (fun hb21 => ?_)
  refine x_aload dX7_flow_24 rfl ?_
  refine x_ifnonnull (tgt := 32) dX7_flow_26 (by decide) (fun h => absurd rfl h) (fun hb26 => ?_)
  refine x_ldc (e := -100000001) dX7_flow_29 ct_RX7_78 (by decide) ?_
  exact x_ireturn dX7_flow_31 rfl rfl ⟨Nat.le_refl _, Nat.le_refl _⟩ ⟨rfl, rfl, rfl⟩
theorem kX7_flow_y {G : JG} {S : JS} {D : JD} {d : Nat} {X t cz n q : Int} {hs : Int → Int → Int} {r : Int → Int} {c g : Int} (hB : jBL S X) (hst : jSt D X t cz n hs r q) (ht : t ≤ 60000) (h : 0 ≤ c ∧ c < r 1) (hg : g = 0 ∨ g = 1) : JM G yX7_flow cX7_flow 5 (some .int) (d + 3) (0, 0) S D [.inr (.inr (some X)), .inl c, .inl g] (jr (.inl (sShd r c g - r (23 + 11 * c))) S D) := by
  have hB0 := hB
  obtain ⟨bk, bf, bh, bs, bo, hF, hH, sk, sl, ok, ot, tk, tl⟩ := id hB
  have fk := hF.1
  have hhk := hH.1
  obtain ⟨s5, s4, hR, hI, hi⟩ := id hst
  have hc := hR.ct hI
  have b1 := hI.1
  have n0 := hR.1.1
  have n1 := hR.1.2.1
  have n2 := hR.1.2.2.1
  have hC := (hF.2.2.2.2.2.2.2.2.2.2.2.1 c h.1 (by omega)).2
  have ck := hC.1
  have hln := hI.line h.1 h.2
  have hgt := hI.gates c h.1 h.2
  obtain ⟨s5, s6, s7, s4, sr, q1, q2, q3, q4, q5, q6⟩ := (hR.2.2.1 c h.1 h.2).2
  have hr := hI.reach h.1 h.2 hg
  have hb : fBe D (X + 1) c g = some (X + 1 + 4 + (c + g)) := by unfold fBe fRe; rw [n1, n0, if_pos ⟨h, hg⟩, if_pos hr]
  have rk := (hF.2.2.2.2.2.2.2.2.2.2.1 (c + g) hr.1 (by omega)).2
  have cw := hC.2.1
  have wk := hC.2.2.2.2.2.1
  have so := (hR.shOk hI (by omega) h.1 h.2 hg).1
  have sd := (hR.shOk hI (by omega) h.1 h.2 hg).2
  have w2 := (hR.wc h.1 h.2).2.2.1
  show JX _ _ _ _ _ _ _ _ _ _ _ [_, _, _, _, _] _ _
  refine x_aload_n dX7_flow_0 rfl ?_
  refine gf_RX7_10 dX7_flow_1 rfl (by assumption) ?_
  rw [bf]
  refine x_iload_n dX7_flow_4 rfl ?_
  refine c_RX7_159d dX7_flow_5 rfl (kX2_chamberAt_y hF hc (by omega)) (by assumption) (Nat.le_of_ble_eq_true rfl) (Nat.le_of_ble_eq_true rfl) ⟨Nat.le_refl _, Nat.le_refl _⟩ ?_
  refine x_astore_n dX7_flow_8 (by decide) ?_
  show JX _ _ _ _ _ _ _ _ _ _ _ [_, _, _, _, _] _ _
  refine x_aload_n dX7_flow_9 rfl ?_
  refine gf_RX7_10 dX7_flow_10 rfl (by assumption) ?_
  rw [bf]
  refine x_iload_n dX7_flow_13 rfl ?_
  refine x_iload_n dX7_flow_14 rfl ?_
  refine c_RX7_163d dX7_flow_15 rfl (kX2_reachBehind hF hc ⟨by omega, by omega⟩ ⟨by omega, by omega⟩) (by assumption) (Nat.le_of_ble_eq_true rfl) (Nat.le_of_ble_eq_true rfl) ⟨Nat.le_refl _, Nat.le_refl _⟩ ?_
  rw [hb]
  refine x_astore dX7_flow_18 (by decide) ?_
  show JX _ _ _ _ _ _ _ _ _ _ _ [_, _, _, _, _] _ _
  refine x_aload_n dX7_flow_20 rfl ?_
  refine x_ifnull (tgt := 29) dX7_flow_21 (by decide) (fun h => by cases h) (fun hb21 => ?_)
  refine x_aload dX7_flow_24 rfl ?_
  refine x_ifnonnull (tgt := 32) dX7_flow_26 (by decide) (fun hb26 => ?_) (fun h => by cases h)
  refine x_aload_n dX7_flow_32 rfl ?_
  refine gf_RX7_172 dX7_flow_33 rfl (by assumption) ?_
  rw [cw]
  refine x_aload dX7_flow_36 rfl ?_
  refine c_RX7_289d dX7_flow_38 rfl (kX6_flowFrom wk rk so) (by assumption) (Nat.le_of_ble_eq_true rfl) (Nat.le_of_ble_eq_true rfl) ⟨Nat.le_refl _, Nat.le_refl _⟩ ?_
  rw [sd, w2]
  refine x_l2i dX7_flow_41 ?_
  exact x_ireturn dX7_flow_42 rfl rfl ⟨Nat.le_refl _, Nat.le_refl _⟩ ⟨rfl, rfl, rfl⟩
theorem kX7_flow {G : JG} {S : JS} {D : JD} {d : Nat} {X t cz n q : Int} {hs : Int → Int → Int} {r : Int → Int} {c g : Int} (hB : jBL S X) (hst : jSt D X t cz n hs r q) (ht : t ≤ 60000) (rc : i32 c) (rg : i32 g) : JM G yX7_flow cX7_flow 5 (some .int) (d + 3) (0, 0) S D [.inr (.inr (some X)), .inl c, .inl g] (jr (.inl (zFlow c g r)) S D) := by
  unfold zFlow
  by_cases h : (0 ≤ c ∧ c < r 1) ∧ (g = 0 ∨ g = 1)
  · rw [if_pos h]; exact kX7_flow_y hB hst ht h.1 h.2
  · rw [if_neg h]; (
    by_cases hc : 0 ≤ c ∧ c < r 1
    · exact kX7_flow_u2 hB hst ht hc rg (fun z => h ⟨hc, z⟩)
    · exact kX7_flow_u1 hB hst ht rc rg hc)
theorem kX7_chamber_u {G : JG} {S : JS} {D : JD} {d : Nat} {X t cz n q : Int} {hs : Int → Int → Int} {r : Int → Int} {c e : Int} (hB : jBL S X) (hst : jSt D X t cz n hs r q) (ht : t ≤ 60000) (rc : i32 c) (h : ¬ (0 ≤ c ∧ c < r 1)) : JM G yX7_chamber cX7_chamber 4 (some .int) (d + 5) (0, 0) S D [.inr (.inr (some X)), .inl c, .inl e] (jr (.inl (-100000001)) S D) := by
  have hB0 := hB
  obtain ⟨bk, bf, bh, bs, bo, hF, hH, sk, sl, ok, ot, tk, tl⟩ := id hB
  have fk := hF.1
  have hhk := hH.1
  obtain ⟨s5, s4, hR, hI, hi⟩ := id hst
  have hc := hR.ct hI
  have b1 := hI.1
  have n0 := hR.1.1
  have n1 := hR.1.2.1
  have n2 := hR.1.2.2.1
  show JX _ _ _ _ _ _ _ _ _ _ _ [_, _, _, _] _ _
  refine x_aload_n dX7_chamber_0 rfl ?_
  refine gf_RX7_10 dX7_chamber_1 rfl (by assumption) ?_
  rw [bf]
  refine x_iload_n dX7_chamber_4 rfl ?_
  refine c_RX7_159d dX7_chamber_5 rfl (kX2_chamberAt_n hF hc rc (by omega)) (by assumption) (Nat.le_of_ble_eq_true rfl) (Nat.le_of_ble_eq_true rfl) ⟨Nat.le_refl _, Nat.le_refl _⟩ ?_
  refine x_astore_n dX7_chamber_8 (by decide) ?_
  show JX _ _ _ _ _ _ _ _ _ _ _ [_, _, _, _] _ _
  refine x_aload_n dX7_chamber_9 rfl ?_
  refine x_ifnonnull (tgt := 16) dX7_chamber_10 (by decide) (fun h => absurd rfl h) (fun hb10 => ?_)
  refine x_ldc (e := -100000001) dX7_chamber_13 ct_RX7_78 (by decide) ?_
  exact x_ireturn dX7_chamber_15 rfl rfl ⟨Nat.le_refl _, Nat.le_refl _⟩ ⟨rfl, rfl, rfl⟩
theorem kX7_chamber_6 {G : JG} {S : JS} {D : JD} {d : Nat} {X t cz n q : Int} {hs : Int → Int → Int} {r : Int → Int} {c : Int} (hB : jBL S X) (hst : jSt D X t cz n hs r q) (ht : t ≤ 60000)(h : 0 ≤ c ∧ c < r 1) : JM G yX7_chamber cX7_chamber 4 (some .int) (d + 5) (0, 0) S D [.inr (.inr (some X)), .inl c, .inl 6] (jr (.inl (r (24 + 11 * c))) S D) := by
  have hB0 := hB
  obtain ⟨bk, bf, bh, bs, bo, hF, hH, sk, sl, ok, ot, tk, tl⟩ := id hB
  have fk := hF.1
  have hhk := hH.1
  obtain ⟨s5, s4, hR, hI, hi⟩ := id hst
  have hc := hR.ct hI
  have b1 := hI.1
  have n0 := hR.1.1
  have n1 := hR.1.2.1
  have n2 := hR.1.2.2.1
  have hC := (hF.2.2.2.2.2.2.2.2.2.2.2.1 c h.1 (by omega)).2
  have ck := hC.1
  have hln := hI.line h.1 h.2
  have hgt := hI.gates c h.1 h.2
  obtain ⟨s5, s6, s7, s4, sr, q1, q2, q3, q4, q5, q6⟩ := (hR.2.2.1 c h.1 h.2).2
  have hl1 := hC.2.2.1
  have hl2 := hC.2.2.2.1
  have cw := hC.2.1
  have lk := hC.2.2.2.2.2.2.1
  have uk := hC.2.2.2.2.2.2.2.1
  have wp : rPl r (100 + c) := Or.inr ⟨by omega, by omega⟩
  have we : sWa (X + 1) (100 + c) = X + 1 + 9 + 5 * c + 1 := by unfold sWa; rw [if_neg (by omega)]; omega
  have wk := hF.wat hI wp
  rw [we] at wk
  show JX _ _ _ _ _ _ _ _ _ _ _ [_, _, _, _] _ _
  refine x_aload_n dX7_chamber_0 rfl ?_
  refine gf_RX7_10 dX7_chamber_1 rfl (by assumption) ?_
  rw [bf]
  refine x_iload_n dX7_chamber_4 rfl ?_
  refine c_RX7_159d dX7_chamber_5 rfl (kX2_chamberAt_y hF hc (by omega)) (by assumption) (Nat.le_of_ble_eq_true rfl) (Nat.le_of_ble_eq_true rfl) ⟨Nat.le_refl _, Nat.le_refl _⟩ ?_
  refine x_astore_n dX7_chamber_8 (by decide) ?_
  show JX _ _ _ _ _ _ _ _ _ _ _ [_, _, _, _] _ _
  refine x_aload_n dX7_chamber_9 rfl ?_
  refine x_ifnonnull (tgt := 16) dX7_chamber_10 (by decide) (fun hb10 => ?_) (fun h => by cases h)
  refine x_iload_n dX7_chamber_16 rfl ?_
  refine x_switch (tgt := 60) dX7_chamber_17 ⟨by omega, by omega⟩ (by decide) (by decide) ?_
  refine x_aload_n dX7_chamber_60 rfl ?_
  refine gf_RX7_258 dX7_chamber_61 rfl (by assumption) ?_
  rw [s5]
  exact x_ireturn dX7_chamber_64 rfl rfl ⟨Nat.le_refl _, Nat.le_refl _⟩ ⟨rfl, rfl, rfl⟩
theorem kX7_chamber_7 {G : JG} {S : JS} {D : JD} {d : Nat} {X t cz n q : Int} {hs : Int → Int → Int} {r : Int → Int} {c : Int} (hB : jBL S X) (hst : jSt D X t cz n hs r q) (ht : t ≤ 60000)(h : 0 ≤ c ∧ c < r 1) : JM G yX7_chamber cX7_chamber 4 (some .int) (d + 5) (0, 0) S D [.inr (.inr (some X)), .inl c, .inl 7] (jr (.inl (sLf r c)) S D) := by
  have hB0 := hB
  obtain ⟨bk, bf, bh, bs, bo, hF, hH, sk, sl, ok, ot, tk, tl⟩ := id hB
  have fk := hF.1
  have hhk := hH.1
  obtain ⟨s5, s4, hR, hI, hi⟩ := id hst
  have hc := hR.ct hI
  have b1 := hI.1
  have n0 := hR.1.1
  have n1 := hR.1.2.1
  have n2 := hR.1.2.2.1
  have hC := (hF.2.2.2.2.2.2.2.2.2.2.2.1 c h.1 (by omega)).2
  have ck := hC.1
  have hln := hI.line h.1 h.2
  have hgt := hI.gates c h.1 h.2
  obtain ⟨s5, s6, s7, s4, sr, q1, q2, q3, q4, q5, q6⟩ := (hR.2.2.1 c h.1 h.2).2
  have hl1 := hC.2.2.1
  have hl2 := hC.2.2.2.1
  have cw := hC.2.1
  have lk := hC.2.2.2.2.2.2.1
  have uk := hC.2.2.2.2.2.2.2.1
  have wp : rPl r (100 + c) := Or.inr ⟨by omega, by omega⟩
  have we : sWa (X + 1) (100 + c) = X + 1 + 9 + 5 * c + 1 := by unfold sWa; rw [if_neg (by omega)]; omega
  have wk := hF.wat hI wp
  rw [we] at wk
  show JX _ _ _ _ _ _ _ _ _ _ _ [_, _, _, _] _ _
  refine x_aload_n dX7_chamber_0 rfl ?_
  refine gf_RX7_10 dX7_chamber_1 rfl (by assumption) ?_
  rw [bf]
  refine x_iload_n dX7_chamber_4 rfl ?_
  refine c_RX7_159d dX7_chamber_5 rfl (kX2_chamberAt_y hF hc (by omega)) (by assumption) (Nat.le_of_ble_eq_true rfl) (Nat.le_of_ble_eq_true rfl) ⟨Nat.le_refl _, Nat.le_refl _⟩ ?_
  refine x_astore_n dX7_chamber_8 (by decide) ?_
  show JX _ _ _ _ _ _ _ _ _ _ _ [_, _, _, _] _ _
  refine x_aload_n dX7_chamber_9 rfl ?_
  refine x_ifnonnull (tgt := 16) dX7_chamber_10 (by decide) (fun hb10 => ?_) (fun h => by cases h)
  refine x_iload_n dX7_chamber_16 rfl ?_
  refine x_switch (tgt := 65) dX7_chamber_17 ⟨by omega, by omega⟩ (by decide) (by decide) ?_
  refine x_aload_n dX7_chamber_65 rfl ?_
  refine gf_RX7_199 dX7_chamber_66 rfl (by assumption) ?_
  rw [s6]
  exact x_ireturn dX7_chamber_69 rfl rfl ⟨Nat.le_refl _, Nat.le_refl _⟩ ⟨rfl, rfl, rfl⟩
theorem kX7_chamber_9 {G : JG} {S : JS} {D : JD} {d : Nat} {X t cz n q : Int} {hs : Int → Int → Int} {r : Int → Int} {c : Int} (hB : jBL S X) (hst : jSt D X t cz n hs r q) (ht : t ≤ 60000)(h : 0 ≤ c ∧ c < r 1) : JM G yX7_chamber cX7_chamber 4 (some .int) (d + 5) (0, 0) S D [.inr (.inr (some X)), .inl c, .inl 9] (jr (.inl (sHg r c 0)) S D) := by
  have hB0 := hB
  obtain ⟨bk, bf, bh, bs, bo, hF, hH, sk, sl, ok, ot, tk, tl⟩ := id hB
  have fk := hF.1
  have hhk := hH.1
  obtain ⟨s5, s4, hR, hI, hi⟩ := id hst
  have hc := hR.ct hI
  have b1 := hI.1
  have n0 := hR.1.1
  have n1 := hR.1.2.1
  have n2 := hR.1.2.2.1
  have hC := (hF.2.2.2.2.2.2.2.2.2.2.2.1 c h.1 (by omega)).2
  have ck := hC.1
  have hln := hI.line h.1 h.2
  have hgt := hI.gates c h.1 h.2
  obtain ⟨s5, s6, s7, s4, sr, q1, q2, q3, q4, q5, q6⟩ := (hR.2.2.1 c h.1 h.2).2
  have hl1 := hC.2.2.1
  have hl2 := hC.2.2.2.1
  have cw := hC.2.1
  have lk := hC.2.2.2.2.2.2.1
  have uk := hC.2.2.2.2.2.2.2.1
  have wp : rPl r (100 + c) := Or.inr ⟨by omega, by omega⟩
  have we : sWa (X + 1) (100 + c) = X + 1 + 9 + 5 * c + 1 := by unfold sWa; rw [if_neg (by omega)]; omega
  have wk := hF.wat hI wp
  rw [we] at wk
  show JX _ _ _ _ _ _ _ _ _ _ _ [_, _, _, _] _ _
  refine x_aload_n dX7_chamber_0 rfl ?_
  refine gf_RX7_10 dX7_chamber_1 rfl (by assumption) ?_
  rw [bf]
  refine x_iload_n dX7_chamber_4 rfl ?_
  refine c_RX7_159d dX7_chamber_5 rfl (kX2_chamberAt_y hF hc (by omega)) (by assumption) (Nat.le_of_ble_eq_true rfl) (Nat.le_of_ble_eq_true rfl) ⟨Nat.le_refl _, Nat.le_refl _⟩ ?_
  refine x_astore_n dX7_chamber_8 (by decide) ?_
  show JX _ _ _ _ _ _ _ _ _ _ _ [_, _, _, _] _ _
  refine x_aload_n dX7_chamber_9 rfl ?_
  refine x_ifnonnull (tgt := 16) dX7_chamber_10 (by decide) (fun hb10 => ?_) (fun h => by cases h)
  refine x_iload_n dX7_chamber_16 rfl ?_
  refine x_switch (tgt := 88) dX7_chamber_17 ⟨by omega, by omega⟩ (by decide) (by decide) ?_
  refine x_aload_n dX7_chamber_88 rfl ?_
  refine gf_RX7_259 dX7_chamber_89 rfl (by assumption) ?_
  rw [hl1]
  refine c_RX7_263d dX7_chamber_92 rfl (kX5_height lk) (by assumption) (Nat.le_of_ble_eq_true rfl) (Nat.le_of_ble_eq_true rfl) ⟨Nat.le_refl _, Nat.le_refl _⟩ ?_
  rw [q1, q3]
  exact x_ireturn dX7_chamber_95 rfl rfl ⟨Nat.le_refl _, Nat.le_refl _⟩ ⟨by unfold sHg; rw [Int.add_zero, Int.add_zero], rfl, rfl⟩
theorem kX7_chamber_10 {G : JG} {S : JS} {D : JD} {d : Nat} {X t cz n q : Int} {hs : Int → Int → Int} {r : Int → Int} {c : Int} (hB : jBL S X) (hst : jSt D X t cz n hs r q) (ht : t ≤ 60000)(h : 0 ≤ c ∧ c < r 1) : JM G yX7_chamber cX7_chamber 4 (some .int) (d + 5) (0, 0) S D [.inr (.inr (some X)), .inl c, .inl 10] (jr (.inl (sHg r c 1)) S D) := by
  have hB0 := hB
  obtain ⟨bk, bf, bh, bs, bo, hF, hH, sk, sl, ok, ot, tk, tl⟩ := id hB
  have fk := hF.1
  have hhk := hH.1
  obtain ⟨s5, s4, hR, hI, hi⟩ := id hst
  have hc := hR.ct hI
  have b1 := hI.1
  have n0 := hR.1.1
  have n1 := hR.1.2.1
  have n2 := hR.1.2.2.1
  have hC := (hF.2.2.2.2.2.2.2.2.2.2.2.1 c h.1 (by omega)).2
  have ck := hC.1
  have hln := hI.line h.1 h.2
  have hgt := hI.gates c h.1 h.2
  obtain ⟨s5, s6, s7, s4, sr, q1, q2, q3, q4, q5, q6⟩ := (hR.2.2.1 c h.1 h.2).2
  have hl1 := hC.2.2.1
  have hl2 := hC.2.2.2.1
  have cw := hC.2.1
  have lk := hC.2.2.2.2.2.2.1
  have uk := hC.2.2.2.2.2.2.2.1
  have wp : rPl r (100 + c) := Or.inr ⟨by omega, by omega⟩
  have we : sWa (X + 1) (100 + c) = X + 1 + 9 + 5 * c + 1 := by unfold sWa; rw [if_neg (by omega)]; omega
  have wk := hF.wat hI wp
  rw [we] at wk
  show JX _ _ _ _ _ _ _ _ _ _ _ [_, _, _, _] _ _
  refine x_aload_n dX7_chamber_0 rfl ?_
  refine gf_RX7_10 dX7_chamber_1 rfl (by assumption) ?_
  rw [bf]
  refine x_iload_n dX7_chamber_4 rfl ?_
  refine c_RX7_159d dX7_chamber_5 rfl (kX2_chamberAt_y hF hc (by omega)) (by assumption) (Nat.le_of_ble_eq_true rfl) (Nat.le_of_ble_eq_true rfl) ⟨Nat.le_refl _, Nat.le_refl _⟩ ?_
  refine x_astore_n dX7_chamber_8 (by decide) ?_
  show JX _ _ _ _ _ _ _ _ _ _ _ [_, _, _, _] _ _
  refine x_aload_n dX7_chamber_9 rfl ?_
  refine x_ifnonnull (tgt := 16) dX7_chamber_10 (by decide) (fun hb10 => ?_) (fun h => by cases h)
  refine x_iload_n dX7_chamber_16 rfl ?_
  refine x_switch (tgt := 96) dX7_chamber_17 ⟨by omega, by omega⟩ (by decide) (by decide) ?_
  refine x_aload_n dX7_chamber_96 rfl ?_
  refine gf_RX7_266 dX7_chamber_97 rfl (by assumption) ?_
  rw [hl2]
  refine c_RX7_263d dX7_chamber_100 rfl (kX5_height uk) (by assumption) (Nat.le_of_ble_eq_true rfl) (Nat.le_of_ble_eq_true rfl) ⟨Nat.le_refl _, Nat.le_refl _⟩ ?_
  rw [q2, q4]
  exact x_ireturn dX7_chamber_103 rfl rfl ⟨Nat.le_refl _, Nat.le_refl _⟩ ⟨by unfold sHg; rw [show 25 + 11 * c + 1 = 26 + 11 * c by omega, show 27 + 11 * c + 1 = 28 + 11 * c by omega], rfl, rfl⟩
theorem kX7_chamber_11 {G : JG} {S : JS} {D : JD} {d : Nat} {X t cz n q : Int} {hs : Int → Int → Int} {r : Int → Int} {c : Int} (hB : jBL S X) (hst : jSt D X t cz n hs r q) (ht : t ≤ 60000)(h : 0 ≤ c ∧ c < r 1) : JM G yX7_chamber cX7_chamber 4 (some .int) (d + 5) (0, 0) S D [.inr (.inr (some X)), .inl c, .inl 11] (jr (.inl (r (30 + 11 * c))) S D) := by
  have hB0 := hB
  obtain ⟨bk, bf, bh, bs, bo, hF, hH, sk, sl, ok, ot, tk, tl⟩ := id hB
  have fk := hF.1
  have hhk := hH.1
  obtain ⟨s5, s4, hR, hI, hi⟩ := id hst
  have hc := hR.ct hI
  have b1 := hI.1
  have n0 := hR.1.1
  have n1 := hR.1.2.1
  have n2 := hR.1.2.2.1
  have hC := (hF.2.2.2.2.2.2.2.2.2.2.2.1 c h.1 (by omega)).2
  have ck := hC.1
  have hln := hI.line h.1 h.2
  have hgt := hI.gates c h.1 h.2
  obtain ⟨s5, s6, s7, s4, sr, q1, q2, q3, q4, q5, q6⟩ := (hR.2.2.1 c h.1 h.2).2
  have hl1 := hC.2.2.1
  have hl2 := hC.2.2.2.1
  have cw := hC.2.1
  have lk := hC.2.2.2.2.2.2.1
  have uk := hC.2.2.2.2.2.2.2.1
  have wp : rPl r (100 + c) := Or.inr ⟨by omega, by omega⟩
  have we : sWa (X + 1) (100 + c) = X + 1 + 9 + 5 * c + 1 := by unfold sWa; rw [if_neg (by omega)]; omega
  have wk := hF.wat hI wp
  rw [we] at wk
  show JX _ _ _ _ _ _ _ _ _ _ _ [_, _, _, _] _ _
  refine x_aload_n dX7_chamber_0 rfl ?_
  refine gf_RX7_10 dX7_chamber_1 rfl (by assumption) ?_
  rw [bf]
  refine x_iload_n dX7_chamber_4 rfl ?_
  refine c_RX7_159d dX7_chamber_5 rfl (kX2_chamberAt_y hF hc (by omega)) (by assumption) (Nat.le_of_ble_eq_true rfl) (Nat.le_of_ble_eq_true rfl) ⟨Nat.le_refl _, Nat.le_refl _⟩ ?_
  refine x_astore_n dX7_chamber_8 (by decide) ?_
  show JX _ _ _ _ _ _ _ _ _ _ _ [_, _, _, _] _ _
  refine x_aload_n dX7_chamber_9 rfl ?_
  refine x_ifnonnull (tgt := 16) dX7_chamber_10 (by decide) (fun hb10 => ?_) (fun h => by cases h)
  refine x_iload_n dX7_chamber_16 rfl ?_
  refine x_switch (tgt := 104) dX7_chamber_17 ⟨by omega, by omega⟩ (by decide) (by decide) ?_
  refine x_aload_n dX7_chamber_104 rfl ?_
  refine gf_RX7_259 dX7_chamber_105 rfl (by assumption) ?_
  rw [hl1]
  refine gf_RX7_269 dX7_chamber_108 rfl (by assumption) ?_
  rw [q5]
  exact x_ireturn dX7_chamber_111 rfl rfl ⟨Nat.le_refl _, Nat.le_refl _⟩ ⟨rfl, rfl, rfl⟩
theorem kX7_chamber_12 {G : JG} {S : JS} {D : JD} {d : Nat} {X t cz n q : Int} {hs : Int → Int → Int} {r : Int → Int} {c : Int} (hB : jBL S X) (hst : jSt D X t cz n hs r q) (ht : t ≤ 60000)(h : 0 ≤ c ∧ c < r 1) : JM G yX7_chamber cX7_chamber 4 (some .int) (d + 5) (0, 0) S D [.inr (.inr (some X)), .inl c, .inl 12] (jr (.inl (r (31 + 11 * c))) S D) := by
  have hB0 := hB
  obtain ⟨bk, bf, bh, bs, bo, hF, hH, sk, sl, ok, ot, tk, tl⟩ := id hB
  have fk := hF.1
  have hhk := hH.1
  obtain ⟨s5, s4, hR, hI, hi⟩ := id hst
  have hc := hR.ct hI
  have b1 := hI.1
  have n0 := hR.1.1
  have n1 := hR.1.2.1
  have n2 := hR.1.2.2.1
  have hC := (hF.2.2.2.2.2.2.2.2.2.2.2.1 c h.1 (by omega)).2
  have ck := hC.1
  have hln := hI.line h.1 h.2
  have hgt := hI.gates c h.1 h.2
  obtain ⟨s5, s6, s7, s4, sr, q1, q2, q3, q4, q5, q6⟩ := (hR.2.2.1 c h.1 h.2).2
  have hl1 := hC.2.2.1
  have hl2 := hC.2.2.2.1
  have cw := hC.2.1
  have lk := hC.2.2.2.2.2.2.1
  have uk := hC.2.2.2.2.2.2.2.1
  have wp : rPl r (100 + c) := Or.inr ⟨by omega, by omega⟩
  have we : sWa (X + 1) (100 + c) = X + 1 + 9 + 5 * c + 1 := by unfold sWa; rw [if_neg (by omega)]; omega
  have wk := hF.wat hI wp
  rw [we] at wk
  show JX _ _ _ _ _ _ _ _ _ _ _ [_, _, _, _] _ _
  refine x_aload_n dX7_chamber_0 rfl ?_
  refine gf_RX7_10 dX7_chamber_1 rfl (by assumption) ?_
  rw [bf]
  refine x_iload_n dX7_chamber_4 rfl ?_
  refine c_RX7_159d dX7_chamber_5 rfl (kX2_chamberAt_y hF hc (by omega)) (by assumption) (Nat.le_of_ble_eq_true rfl) (Nat.le_of_ble_eq_true rfl) ⟨Nat.le_refl _, Nat.le_refl _⟩ ?_
  refine x_astore_n dX7_chamber_8 (by decide) ?_
  show JX _ _ _ _ _ _ _ _ _ _ _ [_, _, _, _] _ _
  refine x_aload_n dX7_chamber_9 rfl ?_
  refine x_ifnonnull (tgt := 16) dX7_chamber_10 (by decide) (fun hb10 => ?_) (fun h => by cases h)
  refine x_iload_n dX7_chamber_16 rfl ?_
  refine x_switch (tgt := 112) dX7_chamber_17 ⟨by omega, by omega⟩ (by decide) (by decide) ?_
  refine x_aload_n dX7_chamber_112 rfl ?_
  refine gf_RX7_266 dX7_chamber_113 rfl (by assumption) ?_
  rw [hl2]
  refine gf_RX7_269 dX7_chamber_116 rfl (by assumption) ?_
  rw [q6]
  exact x_ireturn dX7_chamber_119 rfl rfl ⟨Nat.le_refl _, Nat.le_refl _⟩ ⟨rfl, rfl, rfl⟩
theorem kX7_chamber_8n {G : JG} {S : JS} {D : JD} {d : Nat} {X t cz n q : Int} {hs : Int → Int → Int} {r : Int → Int} {c : Int} (hB : jBL S X) (hst : jSt D X t cz n hs r q) (ht : t ≤ 60000)(h : 0 ≤ c ∧ c < r 1) (hg : r (29 + 11 * c) = -100000005) : JM G yX7_chamber cX7_chamber 4 (some .int) (d + 5) (0, 0) S D [.inr (.inr (some X)), .inl c, .inl 8] (jr (.inl (r (29 + 11 * c))) S D) := by
  have hB0 := hB
  obtain ⟨bk, bf, bh, bs, bo, hF, hH, sk, sl, ok, ot, tk, tl⟩ := id hB
  have fk := hF.1
  have hhk := hH.1
  obtain ⟨s5, s4, hR, hI, hi⟩ := id hst
  have hc := hR.ct hI
  have b1 := hI.1
  have n0 := hR.1.1
  have n1 := hR.1.2.1
  have n2 := hR.1.2.2.1
  have hC := (hF.2.2.2.2.2.2.2.2.2.2.2.1 c h.1 (by omega)).2
  have ck := hC.1
  have hln := hI.line h.1 h.2
  have hgt := hI.gates c h.1 h.2
  obtain ⟨s5, s6, s7, s4, sr, q1, q2, q3, q4, q5, q6⟩ := (hR.2.2.1 c h.1 h.2).2
  have hl1 := hC.2.2.1
  have hl2 := hC.2.2.2.1
  have cw := hC.2.1
  have lk := hC.2.2.2.2.2.2.1
  have uk := hC.2.2.2.2.2.2.2.1
  have wp : rPl r (100 + c) := Or.inr ⟨by omega, by omega⟩
  have we : sWa (X + 1) (100 + c) = X + 1 + 9 + 5 * c + 1 := by unfold sWa; rw [if_neg (by omega)]; omega
  have wk := hF.wat hI wp
  rw [we] at wk
  rw [if_pos hg] at s7
  show JX _ _ _ _ _ _ _ _ _ _ _ [_, _, _, _] _ _
  refine x_aload_n dX7_chamber_0 rfl ?_
  refine gf_RX7_10 dX7_chamber_1 rfl (by assumption) ?_
  rw [bf]
  refine x_iload_n dX7_chamber_4 rfl ?_
  refine c_RX7_159d dX7_chamber_5 rfl (kX2_chamberAt_y hF hc (by omega)) (by assumption) (Nat.le_of_ble_eq_true rfl) (Nat.le_of_ble_eq_true rfl) ⟨Nat.le_refl _, Nat.le_refl _⟩ ?_
  refine x_astore_n dX7_chamber_8 (by decide) ?_
  show JX _ _ _ _ _ _ _ _ _ _ _ [_, _, _, _] _ _
  refine x_aload_n dX7_chamber_9 rfl ?_
  refine x_ifnonnull (tgt := 16) dX7_chamber_10 (by decide) (fun hb10 => ?_) (fun h => by cases h)
  refine x_iload_n dX7_chamber_16 rfl ?_
  refine x_switch (tgt := 70) dX7_chamber_17 ⟨by omega, by omega⟩ (by decide) (by decide) ?_
  refine x_aload_n dX7_chamber_70 rfl ?_
  refine gf_RX7_167 dX7_chamber_71 rfl (by assumption) ?_
  rw [s7]
  refine x_iconst dX7_chamber_74 ?_
  refine x_ic_ne (tgt := 83) dX7_chamber_75 (by decide) ⟨by omega, by omega⟩ ⟨by omega, by omega⟩ (fun h => absurd h (by omega)) (fun hb75 => ?_)
  refine x_ldc (e := -100000005) dX7_chamber_78 ct_RX7_90 (by decide) ?_
  refine x_goto (tgt := 87) dX7_chamber_80 (by decide) ?_
  exact x_ireturn dX7_chamber_87 rfl rfl ⟨Nat.le_refl _, Nat.le_refl _⟩ ⟨by rw [hg], rfl, rfl⟩
theorem kX7_chamber_8y {G : JG} {S : JS} {D : JD} {d : Nat} {X t cz n q : Int} {hs : Int → Int → Int} {r : Int → Int} {c : Int} (hB : jBL S X) (hst : jSt D X t cz n hs r q) (ht : t ≤ 60000)(h : 0 ≤ c ∧ c < r 1) (hg : ¬ r (29 + 11 * c) = -100000005) : JM G yX7_chamber cX7_chamber 4 (some .int) (d + 5) (0, 0) S D [.inr (.inr (some X)), .inl c, .inl 8] (jr (.inl (r (29 + 11 * c))) S D) := by
  have hB0 := hB
  obtain ⟨bk, bf, bh, bs, bo, hF, hH, sk, sl, ok, ot, tk, tl⟩ := id hB
  have fk := hF.1
  have hhk := hH.1
  obtain ⟨s5, s4, hR, hI, hi⟩ := id hst
  have hc := hR.ct hI
  have b1 := hI.1
  have n0 := hR.1.1
  have n1 := hR.1.2.1
  have n2 := hR.1.2.2.1
  have hC := (hF.2.2.2.2.2.2.2.2.2.2.2.1 c h.1 (by omega)).2
  have ck := hC.1
  have hln := hI.line h.1 h.2
  have hgt := hI.gates c h.1 h.2
  obtain ⟨s5, s6, s7, s4, sr, q1, q2, q3, q4, q5, q6⟩ := (hR.2.2.1 c h.1 h.2).2
  have hl1 := hC.2.2.1
  have hl2 := hC.2.2.2.1
  have cw := hC.2.1
  have lk := hC.2.2.2.2.2.2.1
  have uk := hC.2.2.2.2.2.2.2.1
  have wp : rPl r (100 + c) := Or.inr ⟨by omega, by omega⟩
  have we : sWa (X + 1) (100 + c) = X + 1 + 9 + 5 * c + 1 := by unfold sWa; rw [if_neg (by omega)]; omega
  have wk := hF.wat hI wp
  rw [we] at wk
  rw [if_neg hg] at s7
  show JX _ _ _ _ _ _ _ _ _ _ _ [_, _, _, _] _ _
  refine x_aload_n dX7_chamber_0 rfl ?_
  refine gf_RX7_10 dX7_chamber_1 rfl (by assumption) ?_
  rw [bf]
  refine x_iload_n dX7_chamber_4 rfl ?_
  refine c_RX7_159d dX7_chamber_5 rfl (kX2_chamberAt_y hF hc (by omega)) (by assumption) (Nat.le_of_ble_eq_true rfl) (Nat.le_of_ble_eq_true rfl) ⟨Nat.le_refl _, Nat.le_refl _⟩ ?_
  refine x_astore_n dX7_chamber_8 (by decide) ?_
  show JX _ _ _ _ _ _ _ _ _ _ _ [_, _, _, _] _ _
  refine x_aload_n dX7_chamber_9 rfl ?_
  refine x_ifnonnull (tgt := 16) dX7_chamber_10 (by decide) (fun hb10 => ?_) (fun h => by cases h)
  refine x_iload_n dX7_chamber_16 rfl ?_
  refine x_switch (tgt := 70) dX7_chamber_17 ⟨by omega, by omega⟩ (by decide) (by decide) ?_
  refine x_aload_n dX7_chamber_70 rfl ?_
  refine gf_RX7_167 dX7_chamber_71 rfl (by assumption) ?_
  rw [s7]
  refine x_iconst dX7_chamber_74 ?_
  refine x_ic_ne (tgt := 83) dX7_chamber_75 (by decide) ⟨by omega, by omega⟩ ⟨by omega, by omega⟩ (fun hb75 => ?_) (fun h => (h (by omega)).elim)
  refine x_aload_n dX7_chamber_83 rfl ?_
  refine gf_RX7_167 dX7_chamber_84 rfl (by assumption) ?_
  rw [s7]
  exact x_ireturn dX7_chamber_87 rfl rfl ⟨Nat.le_refl _, Nat.le_refl _⟩ ⟨rfl, rfl, rfl⟩
theorem kX7_chamber_w {G : JG} {S : JS} {D : JD} {d : Nat} {X t cz n q : Int} {hs : Int → Int → Int} {r : Int → Int} {c e : Int} (hB : jBL S X) (hst : jSt D X t cz n hs r q) (ht : t ≤ 60000)(h : 0 ≤ c ∧ c < r 1) (re : i32 e) (he : e < 6 ∨ 12 < e) : JM G yX7_chamber cX7_chamber 4 (some .int) (d + 5) (0, 0) S D [.inr (.inr (some X)), .inl c, .inl e] (jr (.inl (tWat r (100 + c) e)) S D) := by
  have hB0 := hB
  obtain ⟨bk, bf, bh, bs, bo, hF, hH, sk, sl, ok, ot, tk, tl⟩ := id hB
  have fk := hF.1
  have hhk := hH.1
  obtain ⟨s5, s4, hR, hI, hi⟩ := id hst
  have hc := hR.ct hI
  have b1 := hI.1
  have n0 := hR.1.1
  have n1 := hR.1.2.1
  have n2 := hR.1.2.2.1
  have hC := (hF.2.2.2.2.2.2.2.2.2.2.2.1 c h.1 (by omega)).2
  have ck := hC.1
  have hln := hI.line h.1 h.2
  have hgt := hI.gates c h.1 h.2
  obtain ⟨s5, s6, s7, s4, sr, q1, q2, q3, q4, q5, q6⟩ := (hR.2.2.1 c h.1 h.2).2
  have hl1 := hC.2.2.1
  have hl2 := hC.2.2.2.1
  have cw := hC.2.1
  have lk := hC.2.2.2.2.2.2.1
  have uk := hC.2.2.2.2.2.2.2.1
  have wp : rPl r (100 + c) := Or.inr ⟨by omega, by omega⟩
  have we : sWa (X + 1) (100 + c) = X + 1 + 9 + 5 * c + 1 := by unfold sWa; rw [if_neg (by omega)]; omega
  have wk := hF.wat hI wp
  rw [we] at wk
  have kp := kR_property (G := G) (d := d) hF hR hI (by omega) wp re
  rw [we] at kp
  show JX _ _ _ _ _ _ _ _ _ _ _ [_, _, _, _] _ _
  refine x_aload_n dX7_chamber_0 rfl ?_
  refine gf_RX7_10 dX7_chamber_1 rfl (by assumption) ?_
  rw [bf]
  refine x_iload_n dX7_chamber_4 rfl ?_
  refine c_RX7_159d dX7_chamber_5 rfl (kX2_chamberAt_y hF hc (by omega)) (by assumption) (Nat.le_of_ble_eq_true rfl) (Nat.le_of_ble_eq_true rfl) ⟨Nat.le_refl _, Nat.le_refl _⟩ ?_
  refine x_astore_n dX7_chamber_8 (by decide) ?_
  show JX _ _ _ _ _ _ _ _ _ _ _ [_, _, _, _] _ _
  refine x_aload_n dX7_chamber_9 rfl ?_
  refine x_ifnonnull (tgt := 16) dX7_chamber_10 (by decide) (fun hb10 => ?_) (fun h => by cases h)
  refine x_iload_n dX7_chamber_16 rfl ?_
  refine x_switch (tgt := 120) dX7_chamber_17 re (by rw [if_pos he]; rfl) (by decide) ?_
  refine x_aload_n dX7_chamber_120 rfl ?_
  refine gf_RX7_172 dX7_chamber_121 rfl (by assumption) ?_
  rw [cw]
  refine x_iload_n dX7_chamber_124 rfl ?_
  refine c_RX7_255d dX7_chamber_125 rfl (kp) (by assumption) (Nat.le_of_ble_eq_true rfl) (Nat.le_of_ble_eq_true rfl) ⟨Nat.le_refl _, Nat.le_refl _⟩ ?_
  exact x_ireturn dX7_chamber_128 rfl rfl ⟨Nat.le_refl _, Nat.le_refl _⟩ ⟨rfl, rfl, rfl⟩
theorem kX7_chamber {G : JG} {S : JS} {D : JD} {d : Nat} {X t cz n q : Int} {hs : Int → Int → Int} {r : Int → Int} {c e : Int} (hB : jBL S X) (hst : jSt D X t cz n hs r q) (ht : t ≤ 60000) (rc : i32 c) (re : i32 e) : JM G yX7_chamber cX7_chamber 4 (some .int) (d + 5) (0, 0) S D [.inr (.inr (some X)), .inl c, .inl e] (jr (.inl (zChamber c e r)) S D) := by
  unfold zChamber
  by_cases h : 0 ≤ c ∧ c < r 1
  · rw [if_pos h]; (
    by_cases he : e < 6 ∨ 12 < e
    · have e1 : tCh r c e = tWat r (100 + c) e := by
        unfold tCh
        rw [if_neg (by omega), if_neg (by omega), if_neg (by omega), if_neg (by omega), if_neg (by omega), if_neg (by omega), if_neg (by omega)]
      rw [e1]; exact kX7_chamber_w hB hst ht h re he
    · have q2 : e = 6 ∨ e = 7 ∨ e = 8 ∨ e = 9 ∨ e = 10 ∨ e = 11 ∨ e = 12 := by omega
      rcases q2 with rfl | rfl | rfl | rfl | rfl | rfl | rfl
      · exact kX7_chamber_6 hB hst ht h
      · exact kX7_chamber_7 hB hst ht h
      · by_cases hg : r (29 + 11 * c) = -100000005
        · exact kX7_chamber_8n hB hst ht h hg
        · exact kX7_chamber_8y hB hst ht h hg
      · exact kX7_chamber_9 hB hst ht h
      · exact kX7_chamber_10 hB hst ht h
      · exact kX7_chamber_11 hB hst ht h
      · exact kX7_chamber_12 hB hst ht h)
  · rw [if_neg h]; exact kX7_chamber_u hB hst ht rc h
