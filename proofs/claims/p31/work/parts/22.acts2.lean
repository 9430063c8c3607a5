/-! ACTS on one chamber's own numbers -/
theorem jFR.own {t : Int} {D : JD} {b c k v x0 k0 v0 : Int} {r : Int → Int} (h : jFR D b r) (hI : rIn t r) (h0 : 0 ≤ c) (h1 : c < r 1)
    (hk : (k = 25 + 11 * c ∧ x0 = b + 9 + 5 * c + 2 ∧ k0 = 0 ∧ v0 = v) ∨ (k = 26 + 11 * c ∧ x0 = b + 9 + 5 * c + 3 ∧ k0 = 0 ∧ v0 = v) ∨ (k = 27 + 11 * c ∧ x0 = b + 9 + 5 * c + 2 ∧ k0 = 1 ∧ v0 = v) ∨ (k = 28 + 11 * c ∧ x0 = b + 9 + 5 * c + 3 ∧ k0 = 1 ∧ v0 = v) ∨ (k = 29 + 11 * c ∧ x0 = b + 9 + 5 * c ∧ k0 = 7 ∧ v0 = if v = -100000005 then -1 else v)) : jFR (jup D x0 k0 v0) b (rup r k v) := by
  have b1 := hI.1
  have hko : 24 + 11 * c < k ∧ k < 32 + 11 * c := by omega
  refine h.chm hI h0 h1 (rup_own ⟨by omega, hko.2⟩) (fun x z y1 y2 y3 y4 => jup_ne (by omega)) ?_
  obtain ⟨e5, e6, e7, e4, er, q1, q2, q3, q4, q5, q6⟩ := (h.2.2.1 c h0 h1).2
  unfold jCR
  have el : rup r k v (161 + 13 * c) = r (161 + 13 * c) := rup_ne (by omega)
  rw [el, sLf_own hko ⟨h0, by omega⟩ (by omega) c (by omega)]
  have hr : ∀ z : Int, 0 ≤ z → z < r (161 + 13 * c) → jup D x0 k0 v0 (b + 9 + 5 * c + 4) z = rup r k v (162 + 13 * c + z) := fun z p q => by
    rw [jup_ne (by omega), rup_ne (by omega)]; exact er z p q
  rcases hk with ⟨rfl, rfl, rfl, rfl⟩ | ⟨rfl, rfl, rfl, rfl⟩ | ⟨rfl, rfl, rfl, rfl⟩ | ⟨rfl, rfl, rfl, rfl⟩ | ⟨rfl, rfl, rfl, rfl⟩ <;> refine ⟨?_, ?_, ?_, ?_, hr, ?_, ?_, ?_, ?_, ?_, ?_⟩ <;>
    first
      | (rw [jup_eq, rup_eq])
      | (rw [jup_ne (by omega), rup_ne (by omega)]; assumption)
      | (rw [jup_nk (by omega), rup_ne (by omega)]; assumption)
      | (rw [jup_ne (by omega)]; assumption)
      | (rw [jup_nk (by omega)]; assumption)
theorem rIn.own {t : Int} {r : Int → Int} {c k v : Int} (hI : rIn t r) (h0 : 0 ≤ c) (h1 : c < r 1) (hk : (k = 25 + 11 * c ∧ 0 ≤ v ∧ v ≤ 5000) ∨ (k = 26 + 11 * c ∧ 0 ≤ v ∧ v ≤ 5000) ∨ (k = 27 + 11 * c ∧ 0 ≤ v ∧ v ≤ r (30 + 11 * c)) ∨ (k = 28 + 11 * c ∧ 0 ≤ v ∧ v ≤ r (31 + 11 * c)) ∨ (k = 29 + 11 * c ∧ (v = -100000005 ∨ v = 0 ∨ v = 1))) : rIn t (rup r k v) :=
  hI.chm h0 h1 (rup_own (by omega)) (rCo.own hI h0 h1 (by omega) hk) (by rw [rup_ne (by omega), rup_ne (by omega)])
/-- a chamber and one of its gates -/
def rGate (r : Int → Int) (c g : Int) : Prop := (0 ≤ c ∧ c < r 1) ∧ (g = 0 ∨ g = 1)
def zSetSill (c g h : Int) (r : Int → Int) : Zr := if (0 ≤ c ∧ c < r 1) ∧ (g = 0 ∨ g = 1) then (if 0 ≤ h ∧ h ≤ 5000 then (r (25 + 11 * c + g), some (rup r (25 + 11 * c + g) h), 0) else (-100000002, none, 0)) else (-100000001, none, 0)
def zDredge (c g : Int) (r : Int → Int) : Zr := if (0 ≤ c ∧ c < r 1) ∧ (g = 0 ∨ g = 1) then (if r (27 + 11 * c + g) = 0 then (-100000005, none, 0) else (r (27 + 11 * c + g), some (rup r (27 + 11 * c + g) 0), 0)) else (-100000001, none, 0)
def zClose (c : Int) (r : Int → Int) : Zr := if 0 ≤ c ∧ c < r 1 then (if r (29 + 11 * c) < 0 then (-100000003, none, 2) else (r (29 + 11 * c), some (rup r (29 + 11 * c) (-100000005)), 0)) else (-100000001, none, 0)
theorem kX7_setSill_u {G : JG} {S : JS} {D : JD} {d : Nat} {X t cz n q : Int} {hs : Int → Int → Int} {r : Int → Int} {c g v : Int} (hB : jBL S X) (hz : cz = 0 ∨ cz = 1) (hst : jSt D X t cz n hs r q) (ht : t + 100 ≤ 60000)(rc : i32 c) (rg : i32 g) (rv : i32 v) (h : ¬ ((0 ≤ c ∧ c < r 1) ∧ (g = 0 ∨ g = 1))) : JM G yX7_setSill cX7_setSill 6 (some .int) (d + 5) (0, 0) S D [.inr (.inr (some X)), .inl c, .inl g, .inl v] (jrP S (jCl D X (t + 100) cz n hs r q (-100000001, none, 0))) := by
  have hB0 := hB
  obtain ⟨bk, bf, bh, bs, bo, hF, hH, sk, sl, ok, ot, tk, tl⟩ := id hB
  have fk := hF.1
  have hhk := hH.1
  obtain ⟨s5, s4, hR, hI, hi⟩ := id hst
  have hc := hR.ct hI
  have b1 := hI.1
  have hsn : fSi D (X + 1) c g = none := fSi_none (by rw [hR.1.2.1]; exact h)
  show JX _ _ _ _ _ _ _ _ _ _ _ [_, _, _, _, _, _] _ _
  refine x_aload_n dX7_setSill_0 rfl ?_
  refine gf_RX7_10 dX7_setSill_1 rfl (by assumption) ?_
  rw [bf]
  refine x_iload_n dX7_setSill_4 rfl ?_
  refine x_iload_n dX7_setSill_5 rfl ?_
  refine c_RX7_74d dX7_setSill_6 rfl (kX2_sillAt hF hc rc rg) (by assumption) (Nat.le_of_ble_eq_true rfl) (Nat.le_of_ble_eq_true rfl) ⟨Nat.le_refl _, Nat.le_refl _⟩ ?_
  refine x_astore dX7_setSill_9 (by decide) ?_
  show JX _ _ _ _ _ _ _ _ _ _ _ [_, _, _, _, _, _] _ _
  refine x_aload dX7_setSill_11 rfl ?_
  refine x_ifnonnull (tgt := 19) dX7_setSill_13 (by decide) (fun hz => (hz hsn).elim) (fun hb13 => ?_)
  refine x_ldc (e := -100000001) dX7_setSill_16 ct_RX7_78 (by decide) ?_
  exact x_ireturn dX7_setSill_18 rfl rfl ⟨Nat.le_refl _, Nat.le_refl _⟩ ⟨rfl, _, rfl, jCl_none hst (by omega)⟩
theorem kX7_setSill_b0 {G : JG} {S : JS} {D : JD} {d : Nat} {X t cz n q : Int} {hs : Int → Int → Int} {r : Int → Int} {c v : Int} (hB : jBL S X) (hz : cz = 0 ∨ cz = 1) (hst : jSt D X t cz n hs r q) (ht : t + 100 ≤ 60000)(rv : i32 v) (h0 : 0 ≤ c) (h1 : c < r 1) (h : ¬ (0 ≤ v ∧ v ≤ 5000)) : JM G yX7_setSill cX7_setSill 6 (some .int) (d + 5) (0, 0) S D [.inr (.inr (some X)), .inl c, .inl 0, .inl v] (jrP S (jCl D X (t + 100) cz n hs r q (-100000002, none, 0))) := by
  have hB0 := hB
  obtain ⟨bk, bf, bh, bs, bo, hF, hH, sk, sl, ok, ot, tk, tl⟩ := id hB
  have fk := hF.1
  have hhk := hH.1
  obtain ⟨s5, s4, hR, hI, hi⟩ := id hst
  have hc := hR.ct hI
  have b1 := hI.1
  have hcc := (hF.2.2.2.2.2.2.2.2.2.2.2.1 c h0 (by omega)).2
  have ck := hcc.2.2.2.2.2.2.1
  have e1 := hR.1.2.1
  have hss : fSi D (X + 1) c 0 = some (X + 1 + 9 + 5 * c + 2) := by unfold fSi; rw [if_pos (by omega)]; rfl
  obtain ⟨e5, e6, e7, e4, er, q1, q2, q3, q4, q5, q6⟩ := (hR.2.2.1 c h0 h1).2
  show JX _ _ _ _ _ _ _ _ _ _ _ [_, _, _, _, _, _] _ _
  refine x_aload_n dX7_setSill_0 rfl ?_
  refine gf_RX7_10 dX7_setSill_1 rfl (by assumption) ?_
  rw [bf]
  refine x_iload_n dX7_setSill_4 rfl ?_
  refine x_iload_n dX7_setSill_5 rfl ?_
  refine c_RX7_74d dX7_setSill_6 rfl (kX2_sillAt hF hc ⟨by omega, by omega⟩ ⟨by omega, by omega⟩) (by assumption) (Nat.le_of_ble_eq_true rfl) (Nat.le_of_ble_eq_true rfl) ⟨Nat.le_refl _, Nat.le_refl _⟩ ?_
  rw [hss]
  refine x_astore dX7_setSill_9 (by decide) ?_
  show JX _ _ _ _ _ _ _ _ _ _ _ [_, _, _, _, _, _] _ _
  refine x_aload dX7_setSill_11 rfl ?_
  refine x_ifnonnull (tgt := 19) dX7_setSill_13 (by decide) (fun hb13 => ?_) (fun h => by cases h)
  refine x_iload_n dX7_setSill_19 rfl ?_
  refine x_iconst dX7_setSill_20 ?_
  refine x_sipush dX7_setSill_21 (by decide) ?_
  refine c_RX7_65d dX7_setSill_24 rfl (kX7_isWithin rv ⟨by omega, by omega⟩ ⟨by omega, by omega⟩) (Nat.le_of_ble_eq_true rfl) (Nat.le_of_ble_eq_true rfl) ⟨Nat.le_refl _, Nat.le_refl _⟩ ?_
  refine x_if_ne (tgt := 33) dX7_setSill_27 (by decide) ⟨by split <;> omega, by split <;> omega⟩ (fun h => absurd h (by omega)) (fun hb27 => ?_)
  refine x_ldc (e := -100000002) dX7_setSill_30 ct_RX7_46 (by decide) ?_
  exact x_ireturn dX7_setSill_32 rfl rfl ⟨Nat.le_refl _, Nat.le_refl _⟩ ⟨rfl, _, rfl, jCl_none hst (by omega)⟩
theorem kX7_setSill_y0 {G : JG} {S : JS} {D : JD} {d : Nat} {X t cz n q : Int} {hs : Int → Int → Int} {r : Int → Int} {c v : Int} (hB : jBL S X) (hz : cz = 0 ∨ cz = 1) (hst : jSt D X t cz n hs r q) (ht : t + 100 ≤ 60000)(rv : i32 v) (h0 : 0 ≤ c) (h1 : c < r 1) (h : 0 ≤ v ∧ v ≤ 5000) : JM G yX7_setSill cX7_setSill 6 (some .int) (d + 5) (0, 0) S D [.inr (.inr (some X)), .inl c, .inl 0, .inl v] (jrP S (jCl D X (t + 100) cz n hs r q (r (25 + 11 * c + 0), some (rup r (25 + 11 * c + 0) v), 0))) := by
  have hB0 := hB
  obtain ⟨bk, bf, bh, bs, bo, hF, hH, sk, sl, ok, ot, tk, tl⟩ := id hB
  have fk := hF.1
  have hhk := hH.1
  obtain ⟨s5, s4, hR, hI, hi⟩ := id hst
  have hc := hR.ct hI
  have b1 := hI.1
  have hcc := (hF.2.2.2.2.2.2.2.2.2.2.2.1 c h0 (by omega)).2
  have ck := hcc.2.2.2.2.2.2.1
  have e1 := hR.1.2.1
  have hss : fSi D (X + 1) c 0 = some (X + 1 + 9 + 5 * c + 2) := by unfold fSi; rw [if_pos (by omega)]; rfl
  obtain ⟨e5, e6, e7, e4, er, q1, q2, q3, q4, q5, q6⟩ := (hR.2.2.1 c h0 h1).2
  show JX _ _ _ _ _ _ _ _ _ _ _ [_, _, _, _, _, _] _ _
  refine x_aload_n dX7_setSill_0 rfl ?_
  refine gf_RX7_10 dX7_setSill_1 rfl (by assumption) ?_
  rw [bf]
  refine x_iload_n dX7_setSill_4 rfl ?_
  refine x_iload_n dX7_setSill_5 rfl ?_
  refine c_RX7_74d dX7_setSill_6 rfl (kX2_sillAt hF hc ⟨by omega, by omega⟩ ⟨by omega, by omega⟩) (by assumption) (Nat.le_of_ble_eq_true rfl) (Nat.le_of_ble_eq_true rfl) ⟨Nat.le_refl _, Nat.le_refl _⟩ ?_
  rw [hss]
  refine x_astore dX7_setSill_9 (by decide) ?_
  show JX _ _ _ _ _ _ _ _ _ _ _ [_, _, _, _, _, _] _ _
  refine x_aload dX7_setSill_11 rfl ?_
  refine x_ifnonnull (tgt := 19) dX7_setSill_13 (by decide) (fun hb13 => ?_) (fun h => by cases h)
  refine x_iload_n dX7_setSill_19 rfl ?_
  refine x_iconst dX7_setSill_20 ?_
  refine x_sipush dX7_setSill_21 (by decide) ?_
  refine c_RX7_65d dX7_setSill_24 rfl (kX7_isWithin rv ⟨by omega, by omega⟩ ⟨by omega, by omega⟩) (Nat.le_of_ble_eq_true rfl) (Nat.le_of_ble_eq_true rfl) ⟨Nat.le_refl _, Nat.le_refl _⟩ ?_
  refine x_if_ne (tgt := 33) dX7_setSill_27 (by decide) ⟨by split <;> omega, by split <;> omega⟩ (fun hb27 => ?_) (fun h => (h (by omega)).elim)
  refine x_aload_n dX7_setSill_33 rfl ?_
  refine c_RX7_51p dX7_setSill_34 rfl (kX7_record hB hz hst) (by assumption) (Nat.le_of_ble_eq_true rfl) (Nat.le_of_ble_eq_true rfl) ⟨Nat.le_refl _, Nat.le_refl _⟩ (fun D1 h1 => ?_)
  obtain ⟨st1, x1⟩ := h1
  obtain ⟨t5, t4, hR1, hI1, hi1⟩ := id st1
  have hc1 := hR1.ct hI1
  obtain ⟨u5, u6, u7, u4, ur, w1, w2, w3, w4, w5, w6⟩ := (hR1.2.2.1 c h0 h1).2
  refine x_aload dX7_setSill_37 rfl ?_
  refine gf_RX7_79 dX7_setSill_39 rfl (by assumption) ?_
  rw [w1]
  refine x_istore dX7_setSill_42 (by decide) ?_
  show JX _ _ _ _ _ _ _ _ _ _ _ [_, _, _, _, _, _] _ _
  refine x_aload dX7_setSill_44 rfl ?_
  refine x_iload_n dX7_setSill_46 rfl ?_
  refine pf_RX7_79 dX7_setSill_47 rfl (by assumption) ?_
  have hR2 := hR1.own (k := 25 + 11 * c + 0) (v := v) (x0 := X + 1 + 9 + 5 * c + 2) (k0 := 0) (v0 := v) hI1 h0 h1 (by omega)
  have hI2 := (hI1.mono (show t ≤ t + 100 by omega)).own (k := 25 + 11 * c + 0) (v := v) h0 h1 (by omega)
  refine x_aload_n dX7_setSill_50 rfl ?_
  refine gf_RX7_10 dX7_setSill_51 rfl (by assumption) ?_
  rw [bf]
  refine c_RX7_58p dX7_setSill_54 rfl (kX2_settle hF hR2 hI2 (by omega)) (by assumption) (Nat.le_of_ble_eq_true rfl) (Nat.le_of_ble_eq_true rfl) ⟨Nat.le_refl _, Nat.le_refl _⟩ (fun D3 h3 => ?_)
  refine x_iload dX7_setSill_57 rfl ?_
  exact x_ireturn dX7_setSill_59 rfl rfl ⟨Nat.le_refl _, Nat.le_refl _⟩ ⟨rfl, _, by rw [show r (25 + 11 * c) = r (25 + 11 * c + 0) from congrArg r (by omega)], jCl_some x1 st1 (fun x k hx => by exact jup_ne (by omega)) h3.2 h3.1 hI2 (by omega)⟩
theorem kX7_setSill_b1 {G : JG} {S : JS} {D : JD} {d : Nat} {X t cz n q : Int} {hs : Int → Int → Int} {r : Int → Int} {c v : Int} (hB : jBL S X) (hz : cz = 0 ∨ cz = 1) (hst : jSt D X t cz n hs r q) (ht : t + 100 ≤ 60000)(rv : i32 v) (h0 : 0 ≤ c) (h1 : c < r 1) (h : ¬ (0 ≤ v ∧ v ≤ 5000)) : JM G yX7_setSill cX7_setSill 6 (some .int) (d + 5) (0, 0) S D [.inr (.inr (some X)), .inl c, .inl 1, .inl v] (jrP S (jCl D X (t + 100) cz n hs r q (-100000002, none, 0))) := by
  have hB0 := hB
  obtain ⟨bk, bf, bh, bs, bo, hF, hH, sk, sl, ok, ot, tk, tl⟩ := id hB
  have fk := hF.1
  have hhk := hH.1
  obtain ⟨s5, s4, hR, hI, hi⟩ := id hst
  have hc := hR.ct hI
  have b1 := hI.1
  have hcc := (hF.2.2.2.2.2.2.2.2.2.2.2.1 c h0 (by omega)).2
  have ck := hcc.2.2.2.2.2.2.2.1
  have e1 := hR.1.2.1
  have hss : fSi D (X + 1) c 1 = some (X + 1 + 9 + 5 * c + 3) := by unfold fSi; rw [if_pos (by omega)]; rfl
  obtain ⟨e5, e6, e7, e4, er, q1, q2, q3, q4, q5, q6⟩ := (hR.2.2.1 c h0 h1).2
  show JX _ _ _ _ _ _ _ _ _ _ _ [_, _, _, _, _, _] _ _
  refine x_aload_n dX7_setSill_0 rfl ?_
  refine gf_RX7_10 dX7_setSill_1 rfl (by assumption) ?_
  rw [bf]
  refine x_iload_n dX7_setSill_4 rfl ?_
  refine x_iload_n dX7_setSill_5 rfl ?_
  refine c_RX7_74d dX7_setSill_6 rfl (kX2_sillAt hF hc ⟨by omega, by omega⟩ ⟨by omega, by omega⟩) (by assumption) (Nat.le_of_ble_eq_true rfl) (Nat.le_of_ble_eq_true rfl) ⟨Nat.le_refl _, Nat.le_refl _⟩ ?_
  rw [hss]
  refine x_astore dX7_setSill_9 (by decide) ?_
  show JX _ _ _ _ _ _ _ _ _ _ _ [_, _, _, _, _, _] _ _
  refine x_aload dX7_setSill_11 rfl ?_
  refine x_ifnonnull (tgt := 19) dX7_setSill_13 (by decide) (fun hb13 => ?_) (fun h => by cases h)
  refine x_iload_n dX7_setSill_19 rfl ?_
  refine x_iconst dX7_setSill_20 ?_
  refine x_sipush dX7_setSill_21 (by decide) ?_
  refine c_RX7_65d dX7_setSill_24 rfl (kX7_isWithin rv ⟨by omega, by omega⟩ ⟨by omega, by omega⟩) (Nat.le_of_ble_eq_true rfl) (Nat.le_of_ble_eq_true rfl) ⟨Nat.le_refl _, Nat.le_refl _⟩ ?_
  refine x_if_ne (tgt := 33) dX7_setSill_27 (by decide) ⟨by split <;> omega, by split <;> omega⟩ (fun h => absurd h (by omega)) (fun hb27 => ?_)
  refine x_ldc (e := -100000002) dX7_setSill_30 ct_RX7_46 (by decide) ?_
  exact x_ireturn dX7_setSill_32 rfl rfl ⟨Nat.le_refl _, Nat.le_refl _⟩ ⟨rfl, _, rfl, jCl_none hst (by omega)⟩
theorem kX7_setSill_y1 {G : JG} {S : JS} {D : JD} {d : Nat} {X t cz n q : Int} {hs : Int → Int → Int} {r : Int → Int} {c v : Int} (hB : jBL S X) (hz : cz = 0 ∨ cz = 1) (hst : jSt D X t cz n hs r q) (ht : t + 100 ≤ 60000)(rv : i32 v) (h0 : 0 ≤ c) (h1 : c < r 1) (h : 0 ≤ v ∧ v ≤ 5000) : JM G yX7_setSill cX7_setSill 6 (some .int) (d + 5) (0, 0) S D [.inr (.inr (some X)), .inl c, .inl 1, .inl v] (jrP S (jCl D X (t + 100) cz n hs r q (r (25 + 11 * c + 1), some (rup r (25 + 11 * c + 1) v), 0))) := by
  have hB0 := hB
  obtain ⟨bk, bf, bh, bs, bo, hF, hH, sk, sl, ok, ot, tk, tl⟩ := id hB
  have fk := hF.1
  have hhk := hH.1
  obtain ⟨s5, s4, hR, hI, hi⟩ := id hst
  have hc := hR.ct hI
  have b1 := hI.1
  have hcc := (hF.2.2.2.2.2.2.2.2.2.2.2.1 c h0 (by omega)).2
  have ck := hcc.2.2.2.2.2.2.2.1
  have e1 := hR.1.2.1
  have hss : fSi D (X + 1) c 1 = some (X + 1 + 9 + 5 * c + 3) := by unfold fSi; rw [if_pos (by omega)]; rfl
  obtain ⟨e5, e6, e7, e4, er, q1, q2, q3, q4, q5, q6⟩ := (hR.2.2.1 c h0 h1).2
  show JX _ _ _ _ _ _ _ _ _ _ _ [_, _, _, _, _, _] _ _
  refine x_aload_n dX7_setSill_0 rfl ?_
  refine gf_RX7_10 dX7_setSill_1 rfl (by assumption) ?_
  rw [bf]
  refine x_iload_n dX7_setSill_4 rfl ?_
  refine x_iload_n dX7_setSill_5 rfl ?_
  refine c_RX7_74d dX7_setSill_6 rfl (kX2_sillAt hF hc ⟨by omega, by omega⟩ ⟨by omega, by omega⟩) (by assumption) (Nat.le_of_ble_eq_true rfl) (Nat.le_of_ble_eq_true rfl) ⟨Nat.le_refl _, Nat.le_refl _⟩ ?_
  rw [hss]
  refine x_astore dX7_setSill_9 (by decide) ?_
  show JX _ _ _ _ _ _ _ _ _ _ _ [_, _, _, _, _, _] _ _
  refine x_aload dX7_setSill_11 rfl ?_
  refine x_ifnonnull (tgt := 19) dX7_setSill_13 (by decide) (fun hb13 => ?_) (fun h => by cases h)
  refine x_iload_n dX7_setSill_19 rfl ?_
  refine x_iconst dX7_setSill_20 ?_
  refine x_sipush dX7_setSill_21 (by decide) ?_
  refine c_RX7_65d dX7_setSill_24 rfl (kX7_isWithin rv ⟨by omega, by omega⟩ ⟨by omega, by omega⟩) (Nat.le_of_ble_eq_true rfl) (Nat.le_of_ble_eq_true rfl) ⟨Nat.le_refl _, Nat.le_refl _⟩ ?_
  refine x_if_ne (tgt := 33) dX7_setSill_27 (by decide) ⟨by split <;> omega, by split <;> omega⟩ (fun hb27 => ?_) (fun h => (h (by omega)).elim)
  refine x_aload_n dX7_setSill_33 rfl ?_
  refine c_RX7_51p dX7_setSill_34 rfl (kX7_record hB hz hst) (by assumption) (Nat.le_of_ble_eq_true rfl) (Nat.le_of_ble_eq_true rfl) ⟨Nat.le_refl _, Nat.le_refl _⟩ (fun D1 h1 => ?_)
  obtain ⟨st1, x1⟩ := h1
  obtain ⟨t5, t4, hR1, hI1, hi1⟩ := id st1
  have hc1 := hR1.ct hI1
  obtain ⟨u5, u6, u7, u4, ur, w1, w2, w3, w4, w5, w6⟩ := (hR1.2.2.1 c h0 h1).2
  refine x_aload dX7_setSill_37 rfl ?_
  refine gf_RX7_79 dX7_setSill_39 rfl (by assumption) ?_
  rw [w2]
  refine x_istore dX7_setSill_42 (by decide) ?_
  show JX _ _ _ _ _ _ _ _ _ _ _ [_, _, _, _, _, _] _ _
  refine x_aload dX7_setSill_44 rfl ?_
  refine x_iload_n dX7_setSill_46 rfl ?_
  refine pf_RX7_79 dX7_setSill_47 rfl (by assumption) ?_
  have hR2 := hR1.own (k := 25 + 11 * c + 1) (v := v) (x0 := X + 1 + 9 + 5 * c + 3) (k0 := 0) (v0 := v) hI1 h0 h1 (by omega)
  have hI2 := (hI1.mono (show t ≤ t + 100 by omega)).own (k := 25 + 11 * c + 1) (v := v) h0 h1 (by omega)
  refine x_aload_n dX7_setSill_50 rfl ?_
  refine gf_RX7_10 dX7_setSill_51 rfl (by assumption) ?_
  rw [bf]
  refine c_RX7_58p dX7_setSill_54 rfl (kX2_settle hF hR2 hI2 (by omega)) (by assumption) (Nat.le_of_ble_eq_true rfl) (Nat.le_of_ble_eq_true rfl) ⟨Nat.le_refl _, Nat.le_refl _⟩ (fun D3 h3 => ?_)
  refine x_iload dX7_setSill_57 rfl ?_
  exact x_ireturn dX7_setSill_59 rfl rfl ⟨Nat.le_refl _, Nat.le_refl _⟩ ⟨rfl, _, by rw [show r (26 + 11 * c) = r (25 + 11 * c + 1) from congrArg r (by omega)], jCl_some x1 st1 (fun x k hx => by exact jup_ne (by omega)) h3.2 h3.1 hI2 (by omega)⟩
theorem kX7_setSill {G : JG} {S : JS} {D : JD} {d : Nat} {X t cz n q : Int} {hs : Int → Int → Int} {r : Int → Int} {c g v : Int} (hB : jBL S X) (hz : cz = 0 ∨ cz = 1) (hst : jSt D X t cz n hs r q) (ht : t + 100 ≤ 60000) (rc : i32 c) (rg : i32 g) (rv : i32 v) : JM G yX7_setSill cX7_setSill 6 (some .int) (d + 5) (0, 0) S D [.inr (.inr (some X)), .inl c, .inl g, .inl v] (jrP S (jCl D X (t + 100) cz n hs r q (zSetSill c g v r))) := by
  unfold zSetSill
  by_cases h : (0 ≤ c ∧ c < r 1) ∧ (g = 0 ∨ g = 1)
  · rw [if_pos h]
    obtain ⟨⟨h0, h1⟩, hg⟩ := h
    by_cases hv : 0 ≤ v ∧ v ≤ 5000
    · rw [if_pos hv]
      rcases hg with rfl | rfl
      · exact kX7_setSill_y0 hB hz hst ht rv h0 h1 hv
      · exact kX7_setSill_y1 hB hz hst ht rv h0 h1 hv
    · rw [if_neg hv]
      rcases hg with rfl | rfl
      · exact kX7_setSill_b0 hB hz hst ht rv h0 h1 hv
      · exact kX7_setSill_b1 hB hz hst ht rv h0 h1 hv
  · rw [if_neg h]
    exact kX7_setSill_u hB hz hst ht rc rg rv h
theorem kX7_dredge_u {G : JG} {S : JS} {D : JD} {d : Nat} {X t cz n q : Int} {hs : Int → Int → Int} {r : Int → Int} {c g : Int} (hB : jBL S X) (hz : cz = 0 ∨ cz = 1) (hst : jSt D X t cz n hs r q) (ht : t + 100 ≤ 60000)(rc : i32 c) (rg : i32 g) (h : ¬ ((0 ≤ c ∧ c < r 1) ∧ (g = 0 ∨ g = 1))) : JM G yX7_dredge cX7_dredge 5 (some .int) (d + 5) (0, 0) S D [.inr (.inr (some X)), .inl c, .inl g] (jrP S (jCl D X (t + 100) cz n hs r q (-100000001, none, 0))) := by
  have hB0 := hB
  obtain ⟨bk, bf, bh, bs, bo, hF, hH, sk, sl, ok, ot, tk, tl⟩ := id hB
  have fk := hF.1
  have hhk := hH.1
  obtain ⟨s5, s4, hR, hI, hi⟩ := id hst
  have hc := hR.ct hI
  have b1 := hI.1
  have hsn : fSi D (X + 1) c g = none := fSi_none (by rw [hR.1.2.1]; exact h)
  show JX _ _ _ _ _ _ _ _ _ _ _ [_, _, _, _, _] _ _
  refine x_aload_n dX7_dredge_0 rfl ?_
  refine gf_RX7_10 dX7_dredge_1 rfl (by assumption) ?_
  rw [bf]
  refine x_iload_n dX7_dredge_4 rfl ?_
  refine x_iload_n dX7_dredge_5 rfl ?_
  refine c_RX7_74d dX7_dredge_6 rfl (kX2_sillAt hF hc rc rg) (by assumption) (Nat.le_of_ble_eq_true rfl) (Nat.le_of_ble_eq_true rfl) ⟨Nat.le_refl _, Nat.le_refl _⟩ ?_
  refine x_astore_n dX7_dredge_9 (by decide) ?_
  show JX _ _ _ _ _ _ _ _ _ _ _ [_, _, _, _, _] _ _
  refine x_aload_n dX7_dredge_10 rfl ?_
  refine x_ifnonnull (tgt := 17) dX7_dredge_11 (by decide) (fun hz => (hz hsn).elim) (fun hb11 => ?_)
  refine x_ldc (e := -100000001) dX7_dredge_14 ct_RX7_78 (by decide) ?_
  exact x_ireturn dX7_dredge_16 rfl rfl ⟨Nat.le_refl _, Nat.le_refl _⟩ ⟨rfl, _, rfl, jCl_none hst (by omega)⟩
theorem kX7_dredge_n0 {G : JG} {S : JS} {D : JD} {d : Nat} {X t cz n q : Int} {hs : Int → Int → Int} {r : Int → Int} {c : Int} (hB : jBL S X) (hz : cz = 0 ∨ cz = 1) (hst : jSt D X t cz n hs r q) (ht : t + 100 ≤ 60000)(h0 : 0 ≤ c) (h1 : c < r 1) (h : r (27 + 11 * c + 0) = 0) : JM G yX7_dredge cX7_dredge 5 (some .int) (d + 5) (0, 0) S D [.inr (.inr (some X)), .inl c, .inl 0] (jrP S (jCl D X (t + 100) cz n hs r q (-100000005, none, 0))) := by
  have hB0 := hB
  obtain ⟨bk, bf, bh, bs, bo, hF, hH, sk, sl, ok, ot, tk, tl⟩ := id hB
  have fk := hF.1
  have hhk := hH.1
  obtain ⟨s5, s4, hR, hI, hi⟩ := id hst
  have hc := hR.ct hI
  have b1 := hI.1
  have hcc := (hF.2.2.2.2.2.2.2.2.2.2.2.1 c h0 (by omega)).2
  have ck := hcc.2.2.2.2.2.2.1
  have e1 := hR.1.2.1
  have hss : fSi D (X + 1) c 0 = some (X + 1 + 9 + 5 * c + 2) := by unfold fSi; rw [if_pos (by omega)]; rfl
  have co := (hI.2.2.1 c h0 h1).2
  unfold rCo at co
  obtain ⟨e5, e6, e7, e4, er, q1, q2, q3, q4, q5, q6⟩ := (hR.2.2.1 c h0 h1).2
  have em : r (27 + 11 * c) = r (27 + 11 * c + 0) := congrArg r (by omega)
  show JX _ _ _ _ _ _ _ _ _ _ _ [_, _, _, _, _] _ _
  refine x_aload_n dX7_dredge_0 rfl ?_
  refine gf_RX7_10 dX7_dredge_1 rfl (by assumption) ?_
  rw [bf]
  refine x_iload_n dX7_dredge_4 rfl ?_
  refine x_iload_n dX7_dredge_5 rfl ?_
  refine c_RX7_74d dX7_dredge_6 rfl (kX2_sillAt hF hc ⟨by omega, by omega⟩ ⟨by omega, by omega⟩) (by assumption) (Nat.le_of_ble_eq_true rfl) (Nat.le_of_ble_eq_true rfl) ⟨Nat.le_refl _, Nat.le_refl _⟩ ?_
  refine x_astore_n dX7_dredge_9 (by decide) ?_
  show JX _ _ _ _ _ _ _ _ _ _ _ [_, _, _, _, _] _ _
  rw [hss]
  refine x_aload_n dX7_dredge_10 rfl ?_
  refine x_ifnonnull (tgt := 17) dX7_dredge_11 (by decide) (fun hb11 => ?_) (fun h => by cases h)
  refine x_aload_n dX7_dredge_17 rfl ?_
  refine gf_RX7_87 dX7_dredge_18 rfl (by assumption) ?_
  rw [q3]
  refine x_if_ne (tgt := 27) dX7_dredge_21 (by decide) ⟨by omega, by omega⟩ (fun h => absurd h (by omega)) (fun hb21 => ?_)
  refine x_ldc (e := -100000005) dX7_dredge_24 ct_RX7_90 (by decide) ?_
  exact x_ireturn dX7_dredge_26 rfl rfl ⟨Nat.le_refl _, Nat.le_refl _⟩ ⟨rfl, _, rfl, jCl_none hst (by omega)⟩
theorem kX7_dredge_y0 {G : JG} {S : JS} {D : JD} {d : Nat} {X t cz n q : Int} {hs : Int → Int → Int} {r : Int → Int} {c : Int} (hB : jBL S X) (hz : cz = 0 ∨ cz = 1) (hst : jSt D X t cz n hs r q) (ht : t + 100 ≤ 60000)(h0 : 0 ≤ c) (h1 : c < r 1) (h : ¬ r (27 + 11 * c + 0) = 0) : JM G yX7_dredge cX7_dredge 5 (some .int) (d + 5) (0, 0) S D [.inr (.inr (some X)), .inl c, .inl 0] (jrP S (jCl D X (t + 100) cz n hs r q (r (27 + 11 * c + 0), some (rup r (27 + 11 * c + 0) 0), 0))) := by
  have hB0 := hB
  obtain ⟨bk, bf, bh, bs, bo, hF, hH, sk, sl, ok, ot, tk, tl⟩ := id hB
  have fk := hF.1
  have hhk := hH.1
  obtain ⟨s5, s4, hR, hI, hi⟩ := id hst
  have hc := hR.ct hI
  have b1 := hI.1
  have hcc := (hF.2.2.2.2.2.2.2.2.2.2.2.1 c h0 (by omega)).2
  have ck := hcc.2.2.2.2.2.2.1
  have e1 := hR.1.2.1
  have hss : fSi D (X + 1) c 0 = some (X + 1 + 9 + 5 * c + 2) := by unfold fSi; rw [if_pos (by omega)]; rfl
  have co := (hI.2.2.1 c h0 h1).2
  unfold rCo at co
  obtain ⟨e5, e6, e7, e4, er, q1, q2, q3, q4, q5, q6⟩ := (hR.2.2.1 c h0 h1).2
  have em : r (27 + 11 * c) = r (27 + 11 * c + 0) := congrArg r (by omega)
  show JX _ _ _ _ _ _ _ _ _ _ _ [_, _, _, _, _] _ _
  refine x_aload_n dX7_dredge_0 rfl ?_
  refine gf_RX7_10 dX7_dredge_1 rfl (by assumption) ?_
  rw [bf]
  refine x_iload_n dX7_dredge_4 rfl ?_
  refine x_iload_n dX7_dredge_5 rfl ?_
  refine c_RX7_74d dX7_dredge_6 rfl (kX2_sillAt hF hc ⟨by omega, by omega⟩ ⟨by omega, by omega⟩) (by assumption) (Nat.le_of_ble_eq_true rfl) (Nat.le_of_ble_eq_true rfl) ⟨Nat.le_refl _, Nat.le_refl _⟩ ?_
  refine x_astore_n dX7_dredge_9 (by decide) ?_
  show JX _ _ _ _ _ _ _ _ _ _ _ [_, _, _, _, _] _ _
  rw [hss]
  refine x_aload_n dX7_dredge_10 rfl ?_
  refine x_ifnonnull (tgt := 17) dX7_dredge_11 (by decide) (fun hb11 => ?_) (fun h => by cases h)
  refine x_aload_n dX7_dredge_17 rfl ?_
  refine gf_RX7_87 dX7_dredge_18 rfl (by assumption) ?_
  rw [q3]
  refine x_if_ne (tgt := 27) dX7_dredge_21 (by decide) ⟨by omega, by omega⟩ (fun hb21 => ?_) (fun h => (h (by omega)).elim)
  refine x_aload_n dX7_dredge_27 rfl ?_
  refine c_RX7_51p dX7_dredge_28 rfl (kX7_record hB hz hst) (by assumption) (Nat.le_of_ble_eq_true rfl) (Nat.le_of_ble_eq_true rfl) ⟨Nat.le_refl _, Nat.le_refl _⟩ (fun D1 h1 => ?_)
  obtain ⟨st1, x1⟩ := h1
  obtain ⟨t5, t4, hR1, hI1, hi1⟩ := id st1
  have hc1 := hR1.ct hI1
  obtain ⟨u5, u6, u7, u4, ur, w1, w2, w3, w4, w5, w6⟩ := (hR1.2.2.1 c h0 h1).2
  refine x_aload_n dX7_dredge_31 rfl ?_
  refine gf_RX7_87 dX7_dredge_32 rfl (by assumption) ?_
  rw [w3]
  refine x_istore dX7_dredge_35 (by decide) ?_
  show JX _ _ _ _ _ _ _ _ _ _ _ [_, _, _, _, _] _ _
  refine x_aload_n dX7_dredge_37 rfl ?_
  refine x_iconst dX7_dredge_38 ?_
  refine pf_RX7_87 dX7_dredge_39 rfl (by assumption) ?_
  have hR2 := hR1.own (k := 27 + 11 * c + 0) (v := 0) (x0 := X + 1 + 9 + 5 * c + 2) (k0 := 1) (v0 := 0) hI1 h0 h1 (by omega)
  have hI2 := (hI1.mono (show t ≤ t + 100 by omega)).own (k := 27 + 11 * c + 0) (v := 0) h0 h1 (by omega)
  refine x_aload_n dX7_dredge_42 rfl ?_
  refine gf_RX7_10 dX7_dredge_43 rfl (by assumption) ?_
  rw [bf]
  refine c_RX7_58p dX7_dredge_46 rfl (kX2_settle hF hR2 hI2 (by omega)) (by assumption) (Nat.le_of_ble_eq_true rfl) (Nat.le_of_ble_eq_true rfl) ⟨Nat.le_refl _, Nat.le_refl _⟩ (fun D3 h3 => ?_)
  refine x_iload dX7_dredge_49 rfl ?_
  exact x_ireturn dX7_dredge_51 rfl rfl ⟨Nat.le_refl _, Nat.le_refl _⟩ ⟨rfl, _, by rw [em], jCl_some x1 st1 (fun x k hx => by exact jup_ne (by omega)) h3.2 h3.1 hI2 (by omega)⟩
theorem kX7_dredge_n1 {G : JG} {S : JS} {D : JD} {d : Nat} {X t cz n q : Int} {hs : Int → Int → Int} {r : Int → Int} {c : Int} (hB : jBL S X) (hz : cz = 0 ∨ cz = 1) (hst : jSt D X t cz n hs r q) (ht : t + 100 ≤ 60000)(h0 : 0 ≤ c) (h1 : c < r 1) (h : r (27 + 11 * c + 1) = 0) : JM G yX7_dredge cX7_dredge 5 (some .int) (d + 5) (0, 0) S D [.inr (.inr (some X)), .inl c, .inl 1] (jrP S (jCl D X (t + 100) cz n hs r q (-100000005, none, 0))) := by
  have hB0 := hB
  obtain ⟨bk, bf, bh, bs, bo, hF, hH, sk, sl, ok, ot, tk, tl⟩ := id hB
  have fk := hF.1
  have hhk := hH.1
  obtain ⟨s5, s4, hR, hI, hi⟩ := id hst
  have hc := hR.ct hI
  have b1 := hI.1
  have hcc := (hF.2.2.2.2.2.2.2.2.2.2.2.1 c h0 (by omega)).2
  have ck := hcc.2.2.2.2.2.2.2.1
  have e1 := hR.1.2.1
  have hss : fSi D (X + 1) c 1 = some (X + 1 + 9 + 5 * c + 3) := by unfold fSi; rw [if_pos (by omega)]; rfl
  have co := (hI.2.2.1 c h0 h1).2
  unfold rCo at co
  obtain ⟨e5, e6, e7, e4, er, q1, q2, q3, q4, q5, q6⟩ := (hR.2.2.1 c h0 h1).2
  have em : r (28 + 11 * c) = r (27 + 11 * c + 1) := congrArg r (by omega)
  show JX _ _ _ _ _ _ _ _ _ _ _ [_, _, _, _, _] _ _
  refine x_aload_n dX7_dredge_0 rfl ?_
  refine gf_RX7_10 dX7_dredge_1 rfl (by assumption) ?_
  rw [bf]
  refine x_iload_n dX7_dredge_4 rfl ?_
  refine x_iload_n dX7_dredge_5 rfl ?_
  refine c_RX7_74d dX7_dredge_6 rfl (kX2_sillAt hF hc ⟨by omega, by omega⟩ ⟨by omega, by omega⟩) (by assumption) (Nat.le_of_ble_eq_true rfl) (Nat.le_of_ble_eq_true rfl) ⟨Nat.le_refl _, Nat.le_refl _⟩ ?_
  refine x_astore_n dX7_dredge_9 (by decide) ?_
  show JX _ _ _ _ _ _ _ _ _ _ _ [_, _, _, _, _] _ _
  rw [hss]
  refine x_aload_n dX7_dredge_10 rfl ?_
  refine x_ifnonnull (tgt := 17) dX7_dredge_11 (by decide) (fun hb11 => ?_) (fun h => by cases h)
  refine x_aload_n dX7_dredge_17 rfl ?_
  refine gf_RX7_87 dX7_dredge_18 rfl (by assumption) ?_
  rw [q4]
  refine x_if_ne (tgt := 27) dX7_dredge_21 (by decide) ⟨by omega, by omega⟩ (fun h => absurd h (by omega)) (fun hb21 => ?_)
  refine x_ldc (e := -100000005) dX7_dredge_24 ct_RX7_90 (by decide) ?_
  exact x_ireturn dX7_dredge_26 rfl rfl ⟨Nat.le_refl _, Nat.le_refl _⟩ ⟨rfl, _, rfl, jCl_none hst (by omega)⟩
theorem kX7_dredge_y1 {G : JG} {S : JS} {D : JD} {d : Nat} {X t cz n q : Int} {hs : Int → Int → Int} {r : Int → Int} {c : Int} (hB : jBL S X) (hz : cz = 0 ∨ cz = 1) (hst : jSt D X t cz n hs r q) (ht : t + 100 ≤ 60000)(h0 : 0 ≤ c) (h1 : c < r 1) (h : ¬ r (27 + 11 * c + 1) = 0) : JM G yX7_dredge cX7_dredge 5 (some .int) (d + 5) (0, 0) S D [.inr (.inr (some X)), .inl c, .inl 1] (jrP S (jCl D X (t + 100) cz n hs r q (r (27 + 11 * c + 1), some (rup r (27 + 11 * c + 1) 0), 0))) := by
  have hB0 := hB
  obtain ⟨bk, bf, bh, bs, bo, hF, hH, sk, sl, ok, ot, tk, tl⟩ := id hB
  have fk := hF.1
  have hhk := hH.1
  obtain ⟨s5, s4, hR, hI, hi⟩ := id hst
  have hc := hR.ct hI
  have b1 := hI.1
  have hcc := (hF.2.2.2.2.2.2.2.2.2.2.2.1 c h0 (by omega)).2
  have ck := hcc.2.2.2.2.2.2.2.1
  have e1 := hR.1.2.1
  have hss : fSi D (X + 1) c 1 = some (X + 1 + 9 + 5 * c + 3) := by unfold fSi; rw [if_pos (by omega)]; rfl
  have co := (hI.2.2.1 c h0 h1).2
  unfold rCo at co
  obtain ⟨e5, e6, e7, e4, er, q1, q2, q3, q4, q5, q6⟩ := (hR.2.2.1 c h0 h1).2
  have em : r (28 + 11 * c) = r (27 + 11 * c + 1) := congrArg r (by omega)
  show JX _ _ _ _ _ _ _ _ _ _ _ [_, _, _, _, _] _ _
  refine x_aload_n dX7_dredge_0 rfl ?_
  refine gf_RX7_10 dX7_dredge_1 rfl (by assumption) ?_
  rw [bf]
  refine x_iload_n dX7_dredge_4 rfl ?_
  refine x_iload_n dX7_dredge_5 rfl ?_
  refine c_RX7_74d dX7_dredge_6 rfl (kX2_sillAt hF hc ⟨by omega, by omega⟩ ⟨by omega, by omega⟩) (by assumption) (Nat.le_of_ble_eq_true rfl) (Nat.le_of_ble_eq_true rfl) ⟨Nat.le_refl _, Nat.le_refl _⟩ ?_
  refine x_astore_n dX7_dredge_9 (by decide) ?_
  show JX _ _ _ _ _ _ _ _ _ _ _ [_, _, _, _, _] _ _
  rw [hss]
  refine x_aload_n dX7_dredge_10 rfl ?_
  refine x_ifnonnull (tgt := 17) dX7_dredge_11 (by decide) (fun hb11 => ?_) (fun h => by cases h)
  refine x_aload_n dX7_dredge_17 rfl ?_
  refine gf_RX7_87 dX7_dredge_18 rfl (by assumption) ?_
  rw [q4]
  refine x_if_ne (tgt := 27) dX7_dredge_21 (by decide) ⟨by omega, by omega⟩ (fun hb21 => ?_) (fun h => (h (by omega)).elim)
  refine x_aload_n dX7_dredge_27 rfl ?_
  refine c_RX7_51p dX7_dredge_28 rfl (kX7_record hB hz hst) (by assumption) (Nat.le_of_ble_eq_true rfl) (Nat.le_of_ble_eq_true rfl) ⟨Nat.le_refl _, Nat.le_refl _⟩ (fun D1 h1 => ?_)
  obtain ⟨st1, x1⟩ := h1
  obtain ⟨t5, t4, hR1, hI1, hi1⟩ := id st1
  have hc1 := hR1.ct hI1
  obtain ⟨u5, u6, u7, u4, ur, w1, w2, w3, w4, w5, w6⟩ := (hR1.2.2.1 c h0 h1).2
  refine x_aload_n dX7_dredge_31 rfl ?_
  refine gf_RX7_87 dX7_dredge_32 rfl (by assumption) ?_
  rw [w4]
  refine x_istore dX7_dredge_35 (by decide) ?_
  show JX _ _ _ _ _ _ _ _ _ _ _ [_, _, _, _, _] _ _
  refine x_aload_n dX7_dredge_37 rfl ?_
  refine x_iconst dX7_dredge_38 ?_
  refine pf_RX7_87 dX7_dredge_39 rfl (by assumption) ?_
  have hR2 := hR1.own (k := 27 + 11 * c + 1) (v := 0) (x0 := X + 1 + 9 + 5 * c + 3) (k0 := 1) (v0 := 0) hI1 h0 h1 (by omega)
  have hI2 := (hI1.mono (show t ≤ t + 100 by omega)).own (k := 27 + 11 * c + 1) (v := 0) h0 h1 (by omega)
  refine x_aload_n dX7_dredge_42 rfl ?_
  refine gf_RX7_10 dX7_dredge_43 rfl (by assumption) ?_
  rw [bf]
  refine c_RX7_58p dX7_dredge_46 rfl (kX2_settle hF hR2 hI2 (by omega)) (by assumption) (Nat.le_of_ble_eq_true rfl) (Nat.le_of_ble_eq_true rfl) ⟨Nat.le_refl _, Nat.le_refl _⟩ (fun D3 h3 => ?_)
  refine x_iload dX7_dredge_49 rfl ?_
  exact x_ireturn dX7_dredge_51 rfl rfl ⟨Nat.le_refl _, Nat.le_refl _⟩ ⟨rfl, _, by rw [em], jCl_some x1 st1 (fun x k hx => by exact jup_ne (by omega)) h3.2 h3.1 hI2 (by omega)⟩
theorem kX7_dredge {G : JG} {S : JS} {D : JD} {d : Nat} {X t cz n q : Int} {hs : Int → Int → Int} {r : Int → Int} {c g : Int} (hB : jBL S X) (hz : cz = 0 ∨ cz = 1) (hst : jSt D X t cz n hs r q) (ht : t + 100 ≤ 60000) (rc : i32 c) (rg : i32 g) : JM G yX7_dredge cX7_dredge 5 (some .int) (d + 5) (0, 0) S D [.inr (.inr (some X)), .inl c, .inl g] (jrP S (jCl D X (t + 100) cz n hs r q (zDredge c g r))) := by
  unfold zDredge
  by_cases h : (0 ≤ c ∧ c < r 1) ∧ (g = 0 ∨ g = 1)
  · rw [if_pos h]
    obtain ⟨⟨h0, h1⟩, hg⟩ := h
    rcases hg with rfl | rfl
    · by_cases hv : r (27 + 11 * c + 0) = 0
      · rw [if_pos hv]; exact kX7_dredge_n0 hB hz hst ht h0 h1 hv
      · rw [if_neg hv]; exact kX7_dredge_y0 hB hz hst ht h0 h1 hv
    · by_cases hv : r (27 + 11 * c + 1) = 0
      · rw [if_pos hv]; exact kX7_dredge_n1 hB hz hst ht h0 h1 hv
      · rw [if_neg hv]; exact kX7_dredge_y1 hB hz hst ht h0 h1 hv
  · rw [if_neg h]
    exact kX7_dredge_u hB hz hst ht rc rg h
theorem kX7_close_u {G : JG} {S : JS} {D : JD} {d : Nat} {X t cz n q : Int} {hs : Int → Int → Int} {r : Int → Int} {c : Int} (hB : jBL S X) (hz : cz = 0 ∨ cz = 1) (hst : jSt D X t cz n hs r q) (ht : t + 100 ≤ 60000)(rc : i32 c) (h : ¬ (0 ≤ c ∧ c < r 1)) : JM G yX7_close cX7_close 4 (some .int) (d + 5) (0, 0) S D [.inr (.inr (some X)), .inl c] (jrP S (jCl D X (t + 100) cz n hs r q (-100000001, none, 0))) := by
  have hB0 := hB
  obtain ⟨bk, bf, bh, bs, bo, hF, hH, sk, sl, ok, ot, tk, tl⟩ := id hB
  have fk := hF.1
  have hhk := hH.1
  obtain ⟨s5, s4, hR, hI, hi⟩ := id hst
  have hc := hR.ct hI
  have b1 := hI.1
  have e1 := hR.1.2.1
  show JX _ _ _ _ _ _ _ _ _ _ _ [_, _, _, _] _ _
  refine x_aload_n dX7_close_0 rfl ?_
  refine gf_RX7_10 dX7_close_1 rfl (by assumption) ?_
  rw [bf]
  refine x_iload_n dX7_close_4 rfl ?_
  refine c_RX7_159d dX7_close_5 rfl (kX2_chamberAt_n hF hc rc (by omega)) (by assumption) (Nat.le_of_ble_eq_true rfl) (Nat.le_of_ble_eq_true rfl) ⟨Nat.le_refl _, Nat.le_refl _⟩ ?_
  refine x_astore_n dX7_close_8 (by decide) ?_
  show JX _ _ _ _ _ _ _ _ _ _ _ [_, _, _, _] _ _
  refine x_aload_n dX7_close_9 rfl ?_
  refine x_ifnonnull (tgt := 16) dX7_close_10 (by decide) (fun h => absurd rfl h) (fun hb10 => ?_)
  refine x_ldc (e := -100000001) dX7_close_13 ct_RX7_78 (by decide) ?_
  exact x_ireturn dX7_close_15 rfl rfl ⟨Nat.le_refl _, Nat.le_refl _⟩ ⟨rfl, _, rfl, jCl_none hst (by omega)⟩
theorem kX7_close_r {G : JG} {S : JS} {D : JD} {d : Nat} {X t cz n q : Int} {hs : Int → Int → Int} {r : Int → Int} {c : Int} (hB : jBL S X) (hz : cz = 0 ∨ cz = 1) (hst : jSt D X t cz n hs r q) (ht : t + 100 ≤ 60000)(h0 : 0 ≤ c) (h1 : c < r 1) (h : r (29 + 11 * c) < 0) : JM G yX7_close cX7_close 4 (some .int) (d + 5) (0, 0) S D [.inr (.inr (some X)), .inl c] (jrP S (jCl D X (t + 100) cz n hs r q (-100000003, none, 2))) := by
  have hB0 := hB
  obtain ⟨bk, bf, bh, bs, bo, hF, hH, sk, sl, ok, ot, tk, tl⟩ := id hB
  have fk := hF.1
  have hhk := hH.1
  obtain ⟨s5, s4, hR, hI, hi⟩ := id hst
  have hc := hR.ct hI
  have b1 := hI.1
  have hcc := (hF.2.2.2.2.2.2.2.2.2.2.2.1 c h0 (by omega)).2
  have ck := hcc.1
  have e1 := hR.1.2.1
  have hg := hI.gates c h0 h1
  obtain ⟨e5, e6, e7, e4, er, q1, q2, q3, q4, q5, q6⟩ := (hR.2.2.1 c h0 h1).2
  rw [if_pos (by omega)] at e7
  show JX _ _ _ _ _ _ _ _ _ _ _ [_, _, _, _] _ _
  refine x_aload_n dX7_close_0 rfl ?_
  refine gf_RX7_10 dX7_close_1 rfl (by assumption) ?_
  rw [bf]
  refine x_iload_n dX7_close_4 rfl ?_
  refine c_RX7_159d dX7_close_5 rfl (kX2_chamberAt_y hF hc (by omega)) (by assumption) (Nat.le_of_ble_eq_true rfl) (Nat.le_of_ble_eq_true rfl) ⟨Nat.le_refl _, Nat.le_refl _⟩ ?_
  refine x_astore_n dX7_close_8 (by decide) ?_
  show JX _ _ _ _ _ _ _ _ _ _ _ [_, _, _, _] _ _
  refine x_aload_n dX7_close_9 rfl ?_
  refine x_ifnonnull (tgt := 16) dX7_close_10 (by decide) (fun hb10 => ?_) (fun h => by cases h)
  refine x_aload_n dX7_close_16 rfl ?_
  refine gf_RX7_167 dX7_close_17 rfl (by assumption) ?_
  refine x_iconst dX7_close_20 ?_
  refine x_ic_ne (tgt := 30) dX7_close_21 (by decide) ⟨by omega, by omega⟩ ⟨by omega, by omega⟩ (fun h => absurd h (by omega)) (fun hb21 => ?_)
  refine x_aload_n dX7_close_24 rfl ?_
  refine x_iconst dX7_close_25 ?_
  refine c_RX7_105d dX7_close_26 rfl (kX7_refuse hB0) (by assumption) (Nat.le_of_ble_eq_true rfl) (Nat.le_of_ble_eq_true rfl) ⟨Nat.le_refl _, Nat.le_refl _⟩ ?_
  exact x_ireturn dX7_close_29 rfl rfl ⟨Nat.le_refl _, Nat.le_refl _⟩ ⟨rfl, _, rfl, jCl_ref hst (by omega) (by decide)⟩
theorem kX7_close_y {G : JG} {S : JS} {D : JD} {d : Nat} {X t cz n q : Int} {hs : Int → Int → Int} {r : Int → Int} {c : Int} (hB : jBL S X) (hz : cz = 0 ∨ cz = 1) (hst : jSt D X t cz n hs r q) (ht : t + 100 ≤ 60000)(h0 : 0 ≤ c) (h1 : c < r 1) (h : ¬ r (29 + 11 * c) < 0) : JM G yX7_close cX7_close 4 (some .int) (d + 5) (0, 0) S D [.inr (.inr (some X)), .inl c] (jrP S (jCl D X (t + 100) cz n hs r q (r (29 + 11 * c), some (rup r (29 + 11 * c) (-100000005)), 0))) := by
  have hB0 := hB
  obtain ⟨bk, bf, bh, bs, bo, hF, hH, sk, sl, ok, ot, tk, tl⟩ := id hB
  have fk := hF.1
  have hhk := hH.1
  obtain ⟨s5, s4, hR, hI, hi⟩ := id hst
  have hc := hR.ct hI
  have b1 := hI.1
  have hcc := (hF.2.2.2.2.2.2.2.2.2.2.2.1 c h0 (by omega)).2
  have ck := hcc.1
  have e1 := hR.1.2.1
  have hg := hI.gates c h0 h1
  obtain ⟨e5, e6, e7, e4, er, q1, q2, q3, q4, q5, q6⟩ := (hR.2.2.1 c h0 h1).2
  rw [if_neg (by omega)] at e7
  show JX _ _ _ _ _ _ _ _ _ _ _ [_, _, _, _] _ _
  refine x_aload_n dX7_close_0 rfl ?_
  refine gf_RX7_10 dX7_close_1 rfl (by assumption) ?_
  rw [bf]
  refine x_iload_n dX7_close_4 rfl ?_
  refine c_RX7_159d dX7_close_5 rfl (kX2_chamberAt_y hF hc (by omega)) (by assumption) (Nat.le_of_ble_eq_true rfl) (Nat.le_of_ble_eq_true rfl) ⟨Nat.le_refl _, Nat.le_refl _⟩ ?_
  refine x_astore_n dX7_close_8 (by decide) ?_
  show JX _ _ _ _ _ _ _ _ _ _ _ [_, _, _, _] _ _
  refine x_aload_n dX7_close_9 rfl ?_
  refine x_ifnonnull (tgt := 16) dX7_close_10 (by decide) (fun hb10 => ?_) (fun h => by cases h)
  refine x_aload_n dX7_close_16 rfl ?_
  refine gf_RX7_167 dX7_close_17 rfl (by assumption) ?_
  refine x_iconst dX7_close_20 ?_
  refine x_ic_ne (tgt := 30) dX7_close_21 (by decide) ⟨by omega, by omega⟩ ⟨by omega, by omega⟩ (fun hb21 => ?_) (fun h => (h (by omega)).elim)
  refine x_aload_n dX7_close_30 rfl ?_
  refine c_RX7_51p dX7_close_31 rfl (kX7_record hB hz hst) (by assumption) (Nat.le_of_ble_eq_true rfl) (Nat.le_of_ble_eq_true rfl) ⟨Nat.le_refl _, Nat.le_refl _⟩ (fun D1 h1 => ?_)
  obtain ⟨st1, x1⟩ := h1
  obtain ⟨t5, t4, hR1, hI1, hi1⟩ := id st1
  have hc1 := hR1.ct hI1
  obtain ⟨u5, u6, u7, u4, ur, w1, w2, w3, w4, w5, w6⟩ := (hR1.2.2.1 c h0 h1).2
  rw [if_neg (by omega)] at u7
  refine x_aload_n dX7_close_34 rfl ?_
  refine gf_RX7_167 dX7_close_35 rfl (by assumption) ?_
  rw [u7]
  refine x_istore_n dX7_close_38 (by decide) ?_
  show JX _ _ _ _ _ _ _ _ _ _ _ [_, _, _, _] _ _
  refine x_aload_n dX7_close_39 rfl ?_
  refine x_iconst dX7_close_40 ?_
  refine pf_RX7_167 dX7_close_41 rfl (by assumption) ?_
  have hR2 := hR1.own (k := 29 + 11 * c) (v := -100000005) (x0 := X + 1 + 9 + 5 * c) (k0 := 7) (v0 := -1) hI1 h0 h1 (by omega)
  have hI2 := (hI1.mono (show t ≤ t + 100 by omega)).own (k := 29 + 11 * c) (v := -100000005) h0 h1 (by omega)
  refine x_aload_n dX7_close_44 rfl ?_
  refine gf_RX7_10 dX7_close_45 rfl (by assumption) ?_
  rw [bf]
  refine c_RX7_58p dX7_close_48 rfl (kX2_settle hF hR2 hI2 (by omega)) (by assumption) (Nat.le_of_ble_eq_true rfl) (Nat.le_of_ble_eq_true rfl) ⟨Nat.le_refl _, Nat.le_refl _⟩ (fun D3 h3 => ?_)
  refine x_iload_n dX7_close_51 rfl ?_
  exact x_ireturn dX7_close_52 rfl rfl ⟨Nat.le_refl _, Nat.le_refl _⟩ ⟨rfl, _, rfl, jCl_some x1 st1 (fun x k hx => by exact jup_ne (by omega)) h3.2 h3.1 hI2 (by omega)⟩
theorem kX7_close {G : JG} {S : JS} {D : JD} {d : Nat} {X t cz n q : Int} {hs : Int → Int → Int} {r : Int → Int} {c : Int} (hB : jBL S X) (hz : cz = 0 ∨ cz = 1) (hst : jSt D X t cz n hs r q) (ht : t + 100 ≤ 60000) (rc : i32 c) : JM G yX7_close cX7_close 4 (some .int) (d + 5) (0, 0) S D [.inr (.inr (some X)), .inl c] (jrP S (jCl D X (t + 100) cz n hs r q (zClose c r))) := by
  unfold zClose
  by_cases h : 0 ≤ c ∧ c < r 1
  · rw [if_pos h]
    by_cases hv : r (29 + 11 * c) < 0
    · rw [if_pos hv]; exact kX7_close_r hB hz hst ht h.1 h.2 hv
    · rw [if_neg hv]; exact kX7_close_y hB hz hst ht h.1 h.2 hv
  · rw [if_neg h]; exact kX7_close_u hB hz hst ht rc h
