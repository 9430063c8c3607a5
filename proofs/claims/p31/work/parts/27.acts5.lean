/-! addBarge -/
theorem dB_ne {D : JD} {c p l w i h x z : Int} (hx : x ≠ c) : dB D c p l w i h x z = D x z := by
  unfold dB
  rw [jup_ne hx, jup_ne hx, jup_ne hx, jup_ne hx, jup_ne hx, jup_ne hx, jup_ne hx, jup_ne hx]
theorem dB_n {D : JD} {c p l w i h : Int} : dB D c p l w i h c 0 = l ∧ dB D c p l w i h c 1 = w ∧ dB D c p l w i h c 2 = i ∧ dB D c p l w i h c 3 = h ∧ dB D c p l w i h c 4 = 0 ∧ dB D c p l w i h c 5 = 0 ∧ dB D c p l w i h c 6 = p ∧ dB D c p l w i h c 7 = 0 := by
  unfold dB
  refine ⟨?_, ?_, ?_, ?_, ?_, ?_, ?_, ?_⟩
  · rw [jup_nk (by omega), jup_nk (by omega), jup_nk (by omega), jup_nk (by omega), jup_nk (by omega), jup_nk (by omega), jup_nk (by omega), jup_eq]
  · rw [jup_nk (by omega), jup_nk (by omega), jup_nk (by omega), jup_nk (by omega), jup_nk (by omega), jup_nk (by omega), jup_eq]
  · rw [jup_nk (by omega), jup_nk (by omega), jup_nk (by omega), jup_nk (by omega), jup_nk (by omega), jup_eq]
  · rw [jup_nk (by omega), jup_nk (by omega), jup_nk (by omega), jup_nk (by omega), jup_eq]
  · rw [jup_nk (by omega), jup_nk (by omega), jup_nk (by omega), jup_eq]
  · rw [jup_nk (by omega), jup_nk (by omega), jup_eq]
  · rw [jup_nk (by omega), jup_eq]
  · rw [jup_eq]
theorem kX2_appendBarge {G : JG} {S : JS} {D : JD} {d : Nat} {b t p l w i h : Int} {r : Int → Int} (hF : jFl S b) (hR : jFR D b r) (hI : rIn t r) (p0 : 0 ≤ p) (p1 : p < r 0) (h2 : r 2 < 12) (rw0 : i32 w) : JM G yX2_appendBarge cX2_appendBarge 8 none (d + 2) (0, 0) S D [.inr (.inr (some b)), .inl p, .inl l, .inl w, .inl i, .inl h] (jnP S (fun D2 => jFR D2 b (rAddB p l w i h r) ∧ jFx D D2 b)) := by
  have fk := hF.1
  have b1 := hI.1
  have n2 := hR.1.2.2.1
  have n0 := hR.1.1
  have n1 := hR.1.2.1
  have hc1 : jCt (jup D b 5 (r 2 + 1)) b := by unfold jCt; rw [jup_nk (by omega), jup_nk (by omega), jup_eq, n0, n1]; omega
  have bk := (hF.2.2.2.2.2.2.2.2.2.2.2.2 (r 2) (by omega) (by omega)).2
  have rk := (hF.2.2.2.2.2.2.2.2.2.2.1 p p0 (by omega)).2
  have wf1 : fWa (jup D b 5 (r 2 + 1)) b p = some (b + 4 + p) := by unfold fWa fRe; rw [if_pos (by omega), jup_nk (by omega), n0, if_pos ⟨p0, p1⟩]
  obtain ⟨w0, w1, w2, w3, w4⟩ := hR.wr p0 p1 (by omega)
  show JX _ _ _ _ _ _ _ _ _ _ _ [_, _, _, _, _, _, _, _] _ _
  refine x_aload_n dX2_appendBarge_0 rfl ?_
  refine x_dup dX2_appendBarge_1 (fun _ h => by cases h) ?_
  refine gf_RX2_39 dX2_appendBarge_2 rfl (by assumption) ?_
  rw [n2]
  refine x_iconst dX2_appendBarge_5 ?_
  refine x_iadd dX2_appendBarge_6 ?_
  refine pf_RX2_39 dX2_appendBarge_7 rfl (by assumption) ?_
  refine x_aload_n dX2_appendBarge_10 rfl ?_
  refine x_aload_n dX2_appendBarge_11 rfl ?_
  refine gf_RX2_39 dX2_appendBarge_12 rfl (by assumption) ?_
  rw [jup_eq]
  refine x_iconst dX2_appendBarge_15 ?_
  refine x_isub dX2_appendBarge_16 ?_
  refine c_RX2_77d dX2_appendBarge_17 rfl (kX2_bargeAt_y hF hc1 (by rw [jup_eq]; omega)) (by assumption) (Nat.le_of_ble_eq_true rfl) (Nat.le_of_ble_eq_true rfl) ⟨Nat.le_refl _, Nat.le_refl _⟩ ?_
  rw [show r 2 + 1 - 1 = r 2 by omega]
  refine x_astore dX2_appendBarge_20 (by decide) ?_
  show JX _ _ _ _ _ _ _ _ _ _ _ [_, _, _, _, _, _, _, _] _ _
  refine x_aload_n dX2_appendBarge_22 rfl ?_
  refine x_iload_n dX2_appendBarge_23 rfl ?_
  refine c_RX2_81d dX2_appendBarge_24 rfl (kX2_waterAt hF hc1 ⟨by omega, by omega⟩) (by assumption) (Nat.le_of_ble_eq_true rfl) (Nat.le_of_ble_eq_true rfl) ⟨Nat.le_refl _, Nat.le_refl _⟩ ?_
  rw [wf1]
  refine x_astore dX2_appendBarge_27 (by decide) ?_
  show JX _ _ _ _ _ _ _ _ _ _ _ [_, _, _, _, _, _, _, _] _ _
  refine x_aload dX2_appendBarge_29 rfl ?_
  refine x_ifnull (tgt := 57) dX2_appendBarge_31 (by decide) (fun h => by cases h) (fun hb31 => ?_)
  refine x_aload dX2_appendBarge_34 rfl ?_
  refine x_ifnull (tgt := 57) dX2_appendBarge_36 (by decide) (fun h => by cases h) (fun hb36 => ?_)
  refine x_aload dX2_appendBarge_39 rfl ?_
  refine x_iload_n dX2_appendBarge_41 rfl ?_
  refine x_iload_n dX2_appendBarge_42 rfl ?_
  refine x_iload_n dX2_appendBarge_43 rfl ?_
  refine x_iload dX2_appendBarge_44 rfl ?_
  refine x_iload dX2_appendBarge_46 rfl ?_
  refine c_RX2_84d dX2_appendBarge_48 rfl (kX0_begin bk) (by assumption) (Nat.le_of_ble_eq_true rfl) (Nat.le_of_ble_eq_true rfl) ⟨Nat.le_refl _, Nat.le_refl _⟩ ?_
  refine x_aload dX2_appendBarge_51 rfl ?_
  refine x_iload_n dX2_appendBarge_53 rfl ?_
  refine c_RX2_87d dX2_appendBarge_54 rfl (kX6_takeIn rk rw0) (by assumption) (Nat.le_of_ble_eq_true rfl) (Nat.le_of_ble_eq_true rfl) ⟨Nat.le_refl _, Nat.le_refl _⟩ ?_
  exact x_return dX2_appendBarge_57 rfl ⟨Nat.le_refl _, Nat.le_refl _⟩ ⟨rfl, rfl, hR.addB hI p0 p1 h2 (fun x y k1 k2 k3 => by
      by_cases q : x = b + 4 + p
      · subst q
        rw [jup_nk (by omega), jup_nk (by omega), dB_ne (by omega), jup_ne (by omega)]
      · rw [jup_ne q, jup_ne q, dB_ne k2]
        by_cases q2 : x = b
        · rw [q2, jup_nk (by omega)]
        · rw [jup_ne q2]) (by rw [jup_ne (by omega), jup_ne (by omega), dB_ne (by omega), jup_eq]) (by rw [jup_nk (by omega), jup_eq, dB_ne (by omega), jup_ne (by omega), w3]) (by rw [jup_eq, dB_ne (by omega), jup_ne (by omega), w4]) (by
        obtain ⟨g0, g1, g2, g3, g4, g5, g6, g7⟩ := dB_n (D := jup D b 5 (r 2 + 1)) (c := b + 29 + r 2) (p := p) (l := l) (w := w) (i := i) (h := h)
        have ne : b + 29 + r 2 ≠ b + 4 + p := by omega
        refine ⟨?_, ?_, ?_, ?_, ?_, ?_, ?_, ?_⟩ <;> rw [jup_ne ne, jup_ne ne] <;> assumption), fun x k hx => by rw [jup_ne (by omega), jup_ne (by omega), dB_ne (by omega), jup_ne (by omega)]⟩
def zAddBarge (p l w i h : Int) (r : Int → Int) : Zr := if 0 ≤ p ∧ p < r 0 then (if (5 ≤ l ∧ l ≤ 60) ∧ (10 ≤ w ∧ w ≤ 500) ∧ (1 ≤ i ∧ i ≤ 20) ∧ (10 ≤ h ∧ h ≤ 1000) then (if r 2 = 12 then (-100000004, none, 0) else (r 2, some (rAddB p l w i h r), 0)) else (-100000002, none, 0)) else (-100000001, none, 0)
theorem jCl_somex {D D1 D2 D3 : JD} {X t t2 cz n q v : Int} {hs : Int → Int → Int} {r r2 : Int → Int} (x1 : jXh D D1 X) (st1 : jSt D1 X t cz (rcN cz n) (rcH cz n hs r) r q) (x2 : jFx D1 D2 (X + 1)) (x3 : jFx D2 D3 (X + 1)) (hR3 : jFR D3 (X + 1) (sAll r2)) (hI2 : rIn t2 r2) (ht : t ≤ t2) :
    jCl D X t2 cz n hs r q (v, some r2, 0) (.inl v) D3 := jCl_some x1 st1 (fun x k hx => x2 x k (by omega)) x3 hR3 hI2 ht
theorem kX7_addBarge_u {G : JG} {S : JS} {D : JD} {d : Nat} {X t cz n q : Int} {hs : Int → Int → Int} {r : Int → Int} {p l w i h : Int} (hB : jBL S X) (hz : cz = 0 ∨ cz = 1) (hst : jSt D X t cz n hs r q) (ht : t + 100 ≤ 60000)(rp : i32 p) (rl : i32 l) (rw0 : i32 w) (ri : i32 i) (rh : i32 h) (h0 : ¬ (0 ≤ p ∧ p < r 0)) : JM G yX7_addBarge cX7_addBarge 7 (some .int) (d + 5) (0, 0) S D [.inr (.inr (some X)), .inl p, .inl l, .inl w, .inl i, .inl h] (jrP S (jCl D X (t + 100) cz n hs r q (-100000001, none, 0))) := by
  have hB0 := hB
  obtain ⟨bk, bf, bh, bs, bo, hF, hH, sk, sl, ok, ot, tk, tl⟩ := id hB
  have fk := hF.1
  have hhk := hH.1
  obtain ⟨s5, s4, hR, hI, hi⟩ := id hst
  have hc := hR.ct hI
  have b1 := hI.1
  have n0 := hR.1.1
  have n2 := hR.1.2.2.1
  show JX _ _ _ _ _ _ _ _ _ _ _ [_, _, _, _, _, _, _] _ _
  refine x_aload_n dX7_addBarge_0 rfl ?_
  refine gf_RX7_10 dX7_addBarge_1 rfl (by assumption) ?_
  rw [bf]
  refine x_iload_n dX7_addBarge_4 rfl ?_
  refine c_RX7_91d dX7_addBarge_5 rfl (kX2_reachAt_n hF hc rp (by omega)) (by assumption) (Nat.le_of_ble_eq_true rfl) (Nat.le_of_ble_eq_true rfl) ⟨Nat.le_refl _, Nat.le_refl _⟩ ?_
  refine x_ifnonnull (tgt := 14) dX7_addBarge_8 (by decide) (fun h => absurd rfl h) (fun hb8 => ?_)
  refine x_ldc (e := -100000001) dX7_addBarge_11 ct_RX7_78 (by decide) ?_
  exact x_ireturn dX7_addBarge_13 rfl rfl ⟨Nat.le_refl _, Nat.le_refl _⟩ ⟨rfl, _, rfl, jCl_none hst (by omega)⟩
theorem kX7_addBarge_b1 {G : JG} {S : JS} {D : JD} {d : Nat} {X t cz n q : Int} {hs : Int → Int → Int} {r : Int → Int} {p l w i h : Int} (hB : jBL S X) (hz : cz = 0 ∨ cz = 1) (hst : jSt D X t cz n hs r q) (ht : t + 100 ≤ 60000)(rp : i32 p) (rl : i32 l) (rw0 : i32 w) (ri : i32 i) (rh : i32 h)(h0 : 0 ≤ p ∧ p < r 0)(h1 : ¬ (5 ≤ l ∧ l ≤ 60)) : JM G yX7_addBarge cX7_addBarge 7 (some .int) (d + 5) (0, 0) S D [.inr (.inr (some X)), .inl p, .inl l, .inl w, .inl i, .inl h] (jrP S (jCl D X (t + 100) cz n hs r q (-100000002, none, 0))) := by
  have hB0 := hB
  obtain ⟨bk, bf, bh, bs, bo, hF, hH, sk, sl, ok, ot, tk, tl⟩ := id hB
  have fk := hF.1
  have hhk := hH.1
  obtain ⟨s5, s4, hR, hI, hi⟩ := id hst
  have hc := hR.ct hI
  have b1 := hI.1
  have n0 := hR.1.1
  have n2 := hR.1.2.2.1
  show JX _ _ _ _ _ _ _ _ _ _ _ [_, _, _, _, _, _, _] _ _
  refine x_aload_n dX7_addBarge_0 rfl ?_
  refine gf_RX7_10 dX7_addBarge_1 rfl (by assumption) ?_
  rw [bf]
  refine x_iload_n dX7_addBarge_4 rfl ?_
  refine c_RX7_91d dX7_addBarge_5 rfl (kX2_reachAt_y hF hc (by omega)) (by assumption) (Nat.le_of_ble_eq_true rfl) (Nat.le_of_ble_eq_true rfl) ⟨Nat.le_refl _, Nat.le_refl _⟩ ?_
  refine x_ifnonnull (tgt := 14) dX7_addBarge_8 (by decide) (fun hb8 => ?_) (fun h => by cases h)
  refine x_iload_n dX7_addBarge_14 rfl ?_
  refine x_iconst dX7_addBarge_15 ?_
  refine x_bipush dX7_addBarge_16 (by decide) ?_
  refine c_RX7_65d dX7_addBarge_18 rfl (kX7_isWithin rl ⟨by omega, by omega⟩ ⟨by omega, by omega⟩) (Nat.le_of_ble_eq_true rfl) (Nat.le_of_ble_eq_true rfl) ⟨Nat.le_refl _, Nat.le_refl _⟩ ?_
  refine x_if_eq (tgt := 36) dX7_addBarge_21 (by decide) ⟨by split <;> omega, by split <;> omega⟩ (fun hb21 => ?_) (fun h => (h (by omega)).elim)
  refine x_ldc (e := -100000002) dX7_addBarge_36 ct_RX7_46 (by decide) ?_
  exact x_ireturn dX7_addBarge_38 rfl rfl ⟨Nat.le_refl _, Nat.le_refl _⟩ ⟨rfl, _, rfl, jCl_none hst (by omega)⟩
theorem kX7_addBarge_b2 {G : JG} {S : JS} {D : JD} {d : Nat} {X t cz n q : Int} {hs : Int → Int → Int} {r : Int → Int} {p l w i h : Int} (hB : jBL S X) (hz : cz = 0 ∨ cz = 1) (hst : jSt D X t cz n hs r q) (ht : t + 100 ≤ 60000)(rp : i32 p) (rl : i32 l) (rw0 : i32 w) (ri : i32 i) (rh : i32 h)(h0 : 0 ≤ p ∧ p < r 0)(h1 : 5 ≤ l ∧ l ≤ 60) (h2 : ¬ (10 ≤ w ∧ w ≤ 500)) : JM G yX7_addBarge cX7_addBarge 7 (some .int) (d + 5) (0, 0) S D [.inr (.inr (some X)), .inl p, .inl l, .inl w, .inl i, .inl h] (jrP S (jCl D X (t + 100) cz n hs r q (-100000002, none, 0))) := by
  have hB0 := hB
  obtain ⟨bk, bf, bh, bs, bo, hF, hH, sk, sl, ok, ot, tk, tl⟩ := id hB
  have fk := hF.1
  have hhk := hH.1
  obtain ⟨s5, s4, hR, hI, hi⟩ := id hst
  have hc := hR.ct hI
  have b1 := hI.1
  have n0 := hR.1.1
  have n2 := hR.1.2.2.1
  show JX _ _ _ _ _ _ _ _ _ _ _ [_, _, _, _, _, _, _] _ _
  refine x_aload_n dX7_addBarge_0 rfl ?_
  refine gf_RX7_10 dX7_addBarge_1 rfl (by assumption) ?_
  rw [bf]
  refine x_iload_n dX7_addBarge_4 rfl ?_
  refine c_RX7_91d dX7_addBarge_5 rfl (kX2_reachAt_y hF hc (by omega)) (by assumption) (Nat.le_of_ble_eq_true rfl) (Nat.le_of_ble_eq_true rfl) ⟨Nat.le_refl _, Nat.le_refl _⟩ ?_
  refine x_ifnonnull (tgt := 14) dX7_addBarge_8 (by decide) (fun hb8 => ?_) (fun h => by cases h)
  refine x_iload_n dX7_addBarge_14 rfl ?_
  refine x_iconst dX7_addBarge_15 ?_
  refine x_bipush dX7_addBarge_16 (by decide) ?_
  refine c_RX7_65d dX7_addBarge_18 rfl (kX7_isWithin rl ⟨by omega, by omega⟩ ⟨by omega, by omega⟩) (Nat.le_of_ble_eq_true rfl) (Nat.le_of_ble_eq_true rfl) ⟨Nat.le_refl _, Nat.le_refl _⟩ ?_
  refine x_if_eq (tgt := 36) dX7_addBarge_21 (by decide) ⟨by split <;> omega, by split <;> omega⟩ (fun h => absurd h (by omega)) (fun hb21 => ?_)
  refine x_iload_n dX7_addBarge_24 rfl ?_
  refine x_bipush dX7_addBarge_25 (by decide) ?_
  refine x_sipush dX7_addBarge_27 (by decide) ?_
  refine c_RX7_65d dX7_addBarge_30 rfl (kX7_isWithin rw0 ⟨by omega, by omega⟩ ⟨by omega, by omega⟩) (Nat.le_of_ble_eq_true rfl) (Nat.le_of_ble_eq_true rfl) ⟨Nat.le_refl _, Nat.le_refl _⟩ ?_
  refine x_if_ne (tgt := 39) dX7_addBarge_33 (by decide) ⟨by split <;> omega, by split <;> omega⟩ (fun h => absurd h (by omega)) (fun hb33 => ?_)
  refine x_ldc (e := -100000002) dX7_addBarge_36 ct_RX7_46 (by decide) ?_
  exact x_ireturn dX7_addBarge_38 rfl rfl ⟨Nat.le_refl _, Nat.le_refl _⟩ ⟨rfl, _, rfl, jCl_none hst (by omega)⟩
theorem kX7_addBarge_b3 {G : JG} {S : JS} {D : JD} {d : Nat} {X t cz n q : Int} {hs : Int → Int → Int} {r : Int → Int} {p l w i h : Int} (hB : jBL S X) (hz : cz = 0 ∨ cz = 1) (hst : jSt D X t cz n hs r q) (ht : t + 100 ≤ 60000)(rp : i32 p) (rl : i32 l) (rw0 : i32 w) (ri : i32 i) (rh : i32 h)(h0 : 0 ≤ p ∧ p < r 0)(h1 : 5 ≤ l ∧ l ≤ 60) (h2 : 10 ≤ w ∧ w ≤ 500) (h3 : ¬ (1 ≤ i ∧ i ≤ 20)) : JM G yX7_addBarge cX7_addBarge 7 (some .int) (d + 5) (0, 0) S D [.inr (.inr (some X)), .inl p, .inl l, .inl w, .inl i, .inl h] (jrP S (jCl D X (t + 100) cz n hs r q (-100000002, none, 0))) := by
  have hB0 := hB
  obtain ⟨bk, bf, bh, bs, bo, hF, hH, sk, sl, ok, ot, tk, tl⟩ := id hB
  have fk := hF.1
  have hhk := hH.1
  obtain ⟨s5, s4, hR, hI, hi⟩ := id hst
  have hc := hR.ct hI
  have b1 := hI.1
  have n0 := hR.1.1
  have n2 := hR.1.2.2.1
  show JX _ _ _ _ _ _ _ _ _ _ _ [_, _, _, _, _, _, _] _ _
  refine x_aload_n dX7_addBarge_0 rfl ?_
  refine gf_RX7_10 dX7_addBarge_1 rfl (by assumption) ?_
  rw [bf]
  refine x_iload_n dX7_addBarge_4 rfl ?_
  refine c_RX7_91d dX7_addBarge_5 rfl (kX2_reachAt_y hF hc (by omega)) (by assumption) (Nat.le_of_ble_eq_true rfl) (Nat.le_of_ble_eq_true rfl) ⟨Nat.le_refl _, Nat.le_refl _⟩ ?_
  refine x_ifnonnull (tgt := 14) dX7_addBarge_8 (by decide) (fun hb8 => ?_) (fun h => by cases h)
  refine x_iload_n dX7_addBarge_14 rfl ?_
  refine x_iconst dX7_addBarge_15 ?_
  refine x_bipush dX7_addBarge_16 (by decide) ?_
  refine c_RX7_65d dX7_addBarge_18 rfl (kX7_isWithin rl ⟨by omega, by omega⟩ ⟨by omega, by omega⟩) (Nat.le_of_ble_eq_true rfl) (Nat.le_of_ble_eq_true rfl) ⟨Nat.le_refl _, Nat.le_refl _⟩ ?_
  refine x_if_eq (tgt := 36) dX7_addBarge_21 (by decide) ⟨by split <;> omega, by split <;> omega⟩ (fun h => absurd h (by omega)) (fun hb21 => ?_)
  refine x_iload_n dX7_addBarge_24 rfl ?_
  refine x_bipush dX7_addBarge_25 (by decide) ?_
  refine x_sipush dX7_addBarge_27 (by decide) ?_
  refine c_RX7_65d dX7_addBarge_30 rfl (kX7_isWithin rw0 ⟨by omega, by omega⟩ ⟨by omega, by omega⟩) (Nat.le_of_ble_eq_true rfl) (Nat.le_of_ble_eq_true rfl) ⟨Nat.le_refl _, Nat.le_refl _⟩ ?_
  refine x_if_ne (tgt := 39) dX7_addBarge_33 (by decide) ⟨by split <;> omega, by split <;> omega⟩ (fun hb33 => ?_) (fun h => (h (by omega)).elim)
  refine x_iload dX7_addBarge_39 rfl ?_
  refine x_iconst dX7_addBarge_41 ?_
  refine x_bipush dX7_addBarge_42 (by decide) ?_
  refine c_RX7_65d dX7_addBarge_44 rfl (kX7_isWithin ri ⟨by omega, by omega⟩ ⟨by omega, by omega⟩) (Nat.le_of_ble_eq_true rfl) (Nat.le_of_ble_eq_true rfl) ⟨Nat.le_refl _, Nat.le_refl _⟩ ?_
  refine x_if_eq (tgt := 63) dX7_addBarge_47 (by decide) ⟨by split <;> omega, by split <;> omega⟩ (fun hb47 => ?_) (fun h => (h (by omega)).elim)
  refine x_ldc (e := -100000002) dX7_addBarge_63 ct_RX7_46 (by decide) ?_
  exact x_ireturn dX7_addBarge_65 rfl rfl ⟨Nat.le_refl _, Nat.le_refl _⟩ ⟨rfl, _, rfl, jCl_none hst (by omega)⟩
theorem kX7_addBarge_b4 {G : JG} {S : JS} {D : JD} {d : Nat} {X t cz n q : Int} {hs : Int → Int → Int} {r : Int → Int} {p l w i h : Int} (hB : jBL S X) (hz : cz = 0 ∨ cz = 1) (hst : jSt D X t cz n hs r q) (ht : t + 100 ≤ 60000)(rp : i32 p) (rl : i32 l) (rw0 : i32 w) (ri : i32 i) (rh : i32 h)(h0 : 0 ≤ p ∧ p < r 0)(h1 : 5 ≤ l ∧ l ≤ 60) (h2 : 10 ≤ w ∧ w ≤ 500) (h3 : 1 ≤ i ∧ i ≤ 20) (h4 : ¬ (10 ≤ h ∧ h ≤ 1000)) : JM G yX7_addBarge cX7_addBarge 7 (some .int) (d + 5) (0, 0) S D [.inr (.inr (some X)), .inl p, .inl l, .inl w, .inl i, .inl h] (jrP S (jCl D X (t + 100) cz n hs r q (-100000002, none, 0))) := by
  have hB0 := hB
  obtain ⟨bk, bf, bh, bs, bo, hF, hH, sk, sl, ok, ot, tk, tl⟩ := id hB
  have fk := hF.1
  have hhk := hH.1
  obtain ⟨s5, s4, hR, hI, hi⟩ := id hst
  have hc := hR.ct hI
  have b1 := hI.1
  have n0 := hR.1.1
  have n2 := hR.1.2.2.1
  show JX _ _ _ _ _ _ _ _ _ _ _ [_, _, _, _, _, _, _] _ _
  refine x_aload_n dX7_addBarge_0 rfl ?_
  refine gf_RX7_10 dX7_addBarge_1 rfl (by assumption) ?_
  rw [bf]
  refine x_iload_n dX7_addBarge_4 rfl ?_
  refine c_RX7_91d dX7_addBarge_5 rfl (kX2_reachAt_y hF hc (by omega)) (by assumption) (Nat.le_of_ble_eq_true rfl) (Nat.le_of_ble_eq_true rfl) ⟨Nat.le_refl _, Nat.le_refl _⟩ ?_
  refine x_ifnonnull (tgt := 14) dX7_addBarge_8 (by decide) (fun hb8 => ?_) (fun h => by cases h)
  refine x_iload_n dX7_addBarge_14 rfl ?_
  refine x_iconst dX7_addBarge_15 ?_
  refine x_bipush dX7_addBarge_16 (by decide) ?_
  refine c_RX7_65d dX7_addBarge_18 rfl (kX7_isWithin rl ⟨by omega, by omega⟩ ⟨by omega, by omega⟩) (Nat.le_of_ble_eq_true rfl) (Nat.le_of_ble_eq_true rfl) ⟨Nat.le_refl _, Nat.le_refl _⟩ ?_
  refine x_if_eq (tgt := 36) dX7_addBarge_21 (by decide) ⟨by split <;> omega, by split <;> omega⟩ (fun h => absurd h (by omega)) (fun hb21 => ?_)
  refine x_iload_n dX7_addBarge_24 rfl ?_
  refine x_bipush dX7_addBarge_25 (by decide) ?_
  refine x_sipush dX7_addBarge_27 (by decide) ?_
  refine c_RX7_65d dX7_addBarge_30 rfl (kX7_isWithin rw0 ⟨by omega, by omega⟩ ⟨by omega, by omega⟩) (Nat.le_of_ble_eq_true rfl) (Nat.le_of_ble_eq_true rfl) ⟨Nat.le_refl _, Nat.le_refl _⟩ ?_
  refine x_if_ne (tgt := 39) dX7_addBarge_33 (by decide) ⟨by split <;> omega, by split <;> omega⟩ (fun hb33 => ?_) (fun h => (h (by omega)).elim)
  refine x_iload dX7_addBarge_39 rfl ?_
  refine x_iconst dX7_addBarge_41 ?_
  refine x_bipush dX7_addBarge_42 (by decide) ?_
  refine c_RX7_65d dX7_addBarge_44 rfl (kX7_isWithin ri ⟨by omega, by omega⟩ ⟨by omega, by omega⟩) (Nat.le_of_ble_eq_true rfl) (Nat.le_of_ble_eq_true rfl) ⟨Nat.le_refl _, Nat.le_refl _⟩ ?_
  refine x_if_eq (tgt := 63) dX7_addBarge_47 (by decide) ⟨by split <;> omega, by split <;> omega⟩ (fun h => absurd h (by omega)) (fun hb47 => ?_)
  refine x_iload dX7_addBarge_50 rfl ?_
  refine x_bipush dX7_addBarge_52 (by decide) ?_
  refine x_sipush dX7_addBarge_54 (by decide) ?_
  refine c_RX7_65d dX7_addBarge_57 rfl (kX7_isWithin rh ⟨by omega, by omega⟩ ⟨by omega, by omega⟩) (Nat.le_of_ble_eq_true rfl) (Nat.le_of_ble_eq_true rfl) ⟨Nat.le_refl _, Nat.le_refl _⟩ ?_
  refine x_if_ne (tgt := 66) dX7_addBarge_60 (by decide) ⟨by split <;> omega, by split <;> omega⟩ (fun h => absurd h (by omega)) (fun hb60 => ?_)
  refine x_ldc (e := -100000002) dX7_addBarge_63 ct_RX7_46 (by decide) ?_
  exact x_ireturn dX7_addBarge_65 rfl rfl ⟨Nat.le_refl _, Nat.le_refl _⟩ ⟨rfl, _, rfl, jCl_none hst (by omega)⟩
theorem kX7_addBarge_f {G : JG} {S : JS} {D : JD} {d : Nat} {X t cz n q : Int} {hs : Int → Int → Int} {r : Int → Int} {p l w i h : Int} (hB : jBL S X) (hz : cz = 0 ∨ cz = 1) (hst : jSt D X t cz n hs r q) (ht : t + 100 ≤ 60000)(rp : i32 p) (rl : i32 l) (rw0 : i32 w) (ri : i32 i) (rh : i32 h)(h0 : 0 ≤ p ∧ p < r 0)(h1 : 5 ≤ l ∧ l ≤ 60) (h2 : 10 ≤ w ∧ w ≤ 500) (h3 : 1 ≤ i ∧ i ≤ 20) (h4 : 10 ≤ h ∧ h ≤ 1000) (h5 : r 2 = 12) : JM G yX7_addBarge cX7_addBarge 7 (some .int) (d + 5) (0, 0) S D [.inr (.inr (some X)), .inl p, .inl l, .inl w, .inl i, .inl h] (jrP S (jCl D X (t + 100) cz n hs r q (-100000004, none, 0))) := by
  have hB0 := hB
  obtain ⟨bk, bf, bh, bs, bo, hF, hH, sk, sl, ok, ot, tk, tl⟩ := id hB
  have fk := hF.1
  have hhk := hH.1
  obtain ⟨s5, s4, hR, hI, hi⟩ := id hst
  have hc := hR.ct hI
  have b1 := hI.1
  have n0 := hR.1.1
  have n2 := hR.1.2.2.1
  show JX _ _ _ _ _ _ _ _ _ _ _ [_, _, _, _, _, _, _] _ _
  refine x_aload_n dX7_addBarge_0 rfl ?_
  refine gf_RX7_10 dX7_addBarge_1 rfl (by assumption) ?_
  rw [bf]
  refine x_iload_n dX7_addBarge_4 rfl ?_
  refine c_RX7_91d dX7_addBarge_5 rfl (kX2_reachAt_y hF hc (by omega)) (by assumption) (Nat.le_of_ble_eq_true rfl) (Nat.le_of_ble_eq_true rfl) ⟨Nat.le_refl _, Nat.le_refl _⟩ ?_
  refine x_ifnonnull (tgt := 14) dX7_addBarge_8 (by decide) (fun hb8 => ?_) (fun h => by cases h)
  refine x_iload_n dX7_addBarge_14 rfl ?_
  refine x_iconst dX7_addBarge_15 ?_
  refine x_bipush dX7_addBarge_16 (by decide) ?_
  refine c_RX7_65d dX7_addBarge_18 rfl (kX7_isWithin rl ⟨by omega, by omega⟩ ⟨by omega, by omega⟩) (Nat.le_of_ble_eq_true rfl) (Nat.le_of_ble_eq_true rfl) ⟨Nat.le_refl _, Nat.le_refl _⟩ ?_
  refine x_if_eq (tgt := 36) dX7_addBarge_21 (by decide) ⟨by split <;> omega, by split <;> omega⟩ (fun h => absurd h (by omega)) (fun hb21 => ?_)
  refine x_iload_n dX7_addBarge_24 rfl ?_
  refine x_bipush dX7_addBarge_25 (by decide) ?_
  refine x_sipush dX7_addBarge_27 (by decide) ?_
  refine c_RX7_65d dX7_addBarge_30 rfl (kX7_isWithin rw0 ⟨by omega, by omega⟩ ⟨by omega, by omega⟩) (Nat.le_of_ble_eq_true rfl) (Nat.le_of_ble_eq_true rfl) ⟨Nat.le_refl _, Nat.le_refl _⟩ ?_
  refine x_if_ne (tgt := 39) dX7_addBarge_33 (by decide) ⟨by split <;> omega, by split <;> omega⟩ (fun hb33 => ?_) (fun h => (h (by omega)).elim)
  refine x_iload dX7_addBarge_39 rfl ?_
  refine x_iconst dX7_addBarge_41 ?_
  refine x_bipush dX7_addBarge_42 (by decide) ?_
  refine c_RX7_65d dX7_addBarge_44 rfl (kX7_isWithin ri ⟨by omega, by omega⟩ ⟨by omega, by omega⟩) (Nat.le_of_ble_eq_true rfl) (Nat.le_of_ble_eq_true rfl) ⟨Nat.le_refl _, Nat.le_refl _⟩ ?_
  refine x_if_eq (tgt := 63) dX7_addBarge_47 (by decide) ⟨by split <;> omega, by split <;> omega⟩ (fun h => absurd h (by omega)) (fun hb47 => ?_)
  refine x_iload dX7_addBarge_50 rfl ?_
  refine x_bipush dX7_addBarge_52 (by decide) ?_
  refine x_sipush dX7_addBarge_54 (by decide) ?_
  refine c_RX7_65d dX7_addBarge_57 rfl (kX7_isWithin rh ⟨by omega, by omega⟩ ⟨by omega, by omega⟩) (Nat.le_of_ble_eq_true rfl) (Nat.le_of_ble_eq_true rfl) ⟨Nat.le_refl _, Nat.le_refl _⟩ ?_
  refine x_if_ne (tgt := 66) dX7_addBarge_60 (by decide) ⟨by split <;> omega, by split <;> omega⟩ (fun hb60 => ?_) (fun h => (h (by omega)).elim)
  refine x_aload_n dX7_addBarge_66 rfl ?_
  refine gf_RX7_10 dX7_addBarge_67 rfl (by assumption) ?_
  rw [bf]
  refine gf_RX7_116 dX7_addBarge_70 rfl (by assumption) ?_
  refine x_bipush dX7_addBarge_73 (by decide) ?_
  refine x_ic_lt (tgt := 81) dX7_addBarge_75 (by decide) ⟨by omega, by omega⟩ ⟨by omega, by omega⟩ (fun h => absurd h (by omega)) (fun hb75 => ?_)
  refine x_ldc (e := -100000004) dX7_addBarge_78 ct_RX7_50 (by decide) ?_
  exact x_ireturn dX7_addBarge_80 rfl rfl ⟨Nat.le_refl _, Nat.le_refl _⟩ ⟨rfl, _, rfl, jCl_none hst (by omega)⟩
theorem kX7_addBarge_y {G : JG} {S : JS} {D : JD} {d : Nat} {X t cz n q : Int} {hs : Int → Int → Int} {r : Int → Int} {p l w i h : Int} (hB : jBL S X) (hz : cz = 0 ∨ cz = 1) (hst : jSt D X t cz n hs r q) (ht : t + 100 ≤ 60000)(rp : i32 p) (rl : i32 l) (rw0 : i32 w) (ri : i32 i) (rh : i32 h)(h0 : 0 ≤ p ∧ p < r 0)(h1 : 5 ≤ l ∧ l ≤ 60) (h2 : 10 ≤ w ∧ w ≤ 500) (h3 : 1 ≤ i ∧ i ≤ 20) (h4 : 10 ≤ h ∧ h ≤ 1000) (h5 : r 2 ≠ 12) : JM G yX7_addBarge cX7_addBarge 7 (some .int) (d + 5) (0, 0) S D [.inr (.inr (some X)), .inl p, .inl l, .inl w, .inl i, .inl h] (jrP S (jCl D X (t + 100) cz n hs r q (r 2, some (rAddB p l w i h r), 0))) := by
  have hB0 := hB
  obtain ⟨bk, bf, bh, bs, bo, hF, hH, sk, sl, ok, ot, tk, tl⟩ := id hB
  have fk := hF.1
  have hhk := hH.1
  obtain ⟨s5, s4, hR, hI, hi⟩ := id hst
  have hc := hR.ct hI
  have b1 := hI.1
  have n0 := hR.1.1
  have n2 := hR.1.2.2.1
  show JX _ _ _ _ _ _ _ _ _ _ _ [_, _, _, _, _, _, _] _ _
  refine x_aload_n dX7_addBarge_0 rfl ?_
  refine gf_RX7_10 dX7_addBarge_1 rfl (by assumption) ?_
  rw [bf]
  refine x_iload_n dX7_addBarge_4 rfl ?_
  refine c_RX7_91d dX7_addBarge_5 rfl (kX2_reachAt_y hF hc (by omega)) (by assumption) (Nat.le_of_ble_eq_true rfl) (Nat.le_of_ble_eq_true rfl) ⟨Nat.le_refl _, Nat.le_refl _⟩ ?_
  refine x_ifnonnull (tgt := 14) dX7_addBarge_8 (by decide) (fun hb8 => ?_) (fun h => by cases h)
  refine x_iload_n dX7_addBarge_14 rfl ?_
  refine x_iconst dX7_addBarge_15 ?_
  refine x_bipush dX7_addBarge_16 (by decide) ?_
  refine c_RX7_65d dX7_addBarge_18 rfl (kX7_isWithin rl ⟨by omega, by omega⟩ ⟨by omega, by omega⟩) (Nat.le_of_ble_eq_true rfl) (Nat.le_of_ble_eq_true rfl) ⟨Nat.le_refl _, Nat.le_refl _⟩ ?_
  refine x_if_eq (tgt := 36) dX7_addBarge_21 (by decide) ⟨by split <;> omega, by split <;> omega⟩ (fun h => absurd h (by omega)) (fun hb21 => ?_)
  refine x_iload_n dX7_addBarge_24 rfl ?_
  refine x_bipush dX7_addBarge_25 (by decide) ?_
  refine x_sipush dX7_addBarge_27 (by decide) ?_
  refine c_RX7_65d dX7_addBarge_30 rfl (kX7_isWithin rw0 ⟨by omega, by omega⟩ ⟨by omega, by omega⟩) (Nat.le_of_ble_eq_true rfl) (Nat.le_of_ble_eq_true rfl) ⟨Nat.le_refl _, Nat.le_refl _⟩ ?_
  refine x_if_ne (tgt := 39) dX7_addBarge_33 (by decide) ⟨by split <;> omega, by split <;> omega⟩ (fun hb33 => ?_) (fun h => (h (by omega)).elim)
  refine x_iload dX7_addBarge_39 rfl ?_
  refine x_iconst dX7_addBarge_41 ?_
  refine x_bipush dX7_addBarge_42 (by decide) ?_
  refine c_RX7_65d dX7_addBarge_44 rfl (kX7_isWithin ri ⟨by omega, by omega⟩ ⟨by omega, by omega⟩) (Nat.le_of_ble_eq_true rfl) (Nat.le_of_ble_eq_true rfl) ⟨Nat.le_refl _, Nat.le_refl _⟩ ?_
  refine x_if_eq (tgt := 63) dX7_addBarge_47 (by decide) ⟨by split <;> omega, by split <;> omega⟩ (fun h => absurd h (by omega)) (fun hb47 => ?_)
  refine x_iload dX7_addBarge_50 rfl ?_
  refine x_bipush dX7_addBarge_52 (by decide) ?_
  refine x_sipush dX7_addBarge_54 (by decide) ?_
  refine c_RX7_65d dX7_addBarge_57 rfl (kX7_isWithin rh ⟨by omega, by omega⟩ ⟨by omega, by omega⟩) (Nat.le_of_ble_eq_true rfl) (Nat.le_of_ble_eq_true rfl) ⟨Nat.le_refl _, Nat.le_refl _⟩ ?_
  refine x_if_ne (tgt := 66) dX7_addBarge_60 (by decide) ⟨by split <;> omega, by split <;> omega⟩ (fun hb60 => ?_) (fun h => (h (by omega)).elim)
  refine x_aload_n dX7_addBarge_66 rfl ?_
  refine gf_RX7_10 dX7_addBarge_67 rfl (by assumption) ?_
  rw [bf]
  refine gf_RX7_116 dX7_addBarge_70 rfl (by assumption) ?_
  refine x_bipush dX7_addBarge_73 (by decide) ?_
  refine x_ic_lt (tgt := 81) dX7_addBarge_75 (by decide) ⟨by omega, by omega⟩ ⟨by omega, by omega⟩ (fun hb75 => ?_) (fun h => (h (by omega)).elim)
  refine x_aload_n dX7_addBarge_81 rfl ?_
  refine c_RX7_51p dX7_addBarge_82 rfl (kX7_record hB hz hst) (by assumption) (Nat.le_of_ble_eq_true rfl) (Nat.le_of_ble_eq_true rfl) ⟨Nat.le_refl _, Nat.le_refl _⟩ (fun D1 h1 => ?_)
  obtain ⟨st1, x1⟩ := h1
  obtain ⟨t5, t4, hR1, hI1, hi1⟩ := id st1
  have hc1 := hR1.ct hI1
  refine x_aload_n dX7_addBarge_85 rfl ?_
  refine gf_RX7_10 dX7_addBarge_86 rfl (by assumption) ?_
  rw [bf]
  refine gf_RX7_116 dX7_addBarge_89 rfl (by assumption) ?_
  rw [hR1.1.2.2.1]
  refine x_istore dX7_addBarge_92 (by decide) ?_
  show JX _ _ _ _ _ _ _ _ _ _ _ [_, _, _, _, _, _, _] _ _
  refine x_aload_n dX7_addBarge_94 rfl ?_
  refine gf_RX7_10 dX7_addBarge_95 rfl (by assumption) ?_
  rw [bf]
  refine x_iload_n dX7_addBarge_98 rfl ?_
  refine x_iload_n dX7_addBarge_99 rfl ?_
  refine x_iload_n dX7_addBarge_100 rfl ?_
  refine x_iload dX7_addBarge_101 rfl ?_
  refine x_iload dX7_addBarge_103 rfl ?_
  refine c_RX7_119p dX7_addBarge_105 rfl (kX2_appendBarge hF hR1 hI1 h0.1 h0.2 (by omega) rw0) (by assumption) (Nat.le_of_ble_eq_true rfl) (Nat.le_of_ble_eq_true rfl) ⟨Nat.le_refl _, Nat.le_refl _⟩ (fun D2 g2 => ?_)
  obtain ⟨hR2, x2⟩ := g2
  have ht0 : 0 ≤ t + 100 := by have := hI.2.2.2.2.1; have := hI.1; omega
  have hI2 := (hI1.mono (show t ≤ t + 100 by omega)).addB (l := l) (w := w) (i := i) (h := h) h0.1 h0.2 (by omega) h1 h2 h3 h4 ht0
  refine x_aload_n dX7_addBarge_108 rfl ?_
  refine gf_RX7_10 dX7_addBarge_109 rfl (by assumption) ?_
  rw [bf]
  refine c_RX7_58p dX7_addBarge_112 rfl (kX2_settle hF hR2 hI2 (by omega)) (by assumption) (Nat.le_of_ble_eq_true rfl) (Nat.le_of_ble_eq_true rfl) ⟨Nat.le_refl _, Nat.le_refl _⟩ (fun D3 g3 => ?_)
  refine x_iload dX7_addBarge_115 rfl ?_
  exact x_ireturn dX7_addBarge_117 rfl rfl ⟨Nat.le_refl _, Nat.le_refl _⟩ ⟨rfl, _, rfl, jCl_somex x1 st1 x2 g3.2 g3.1 hI2 (by omega)⟩
theorem kX7_addBarge {G : JG} {S : JS} {D : JD} {d : Nat} {X t cz n q : Int} {hs : Int → Int → Int} {r : Int → Int}  {p l w i h : Int} (hB : jBL S X) (hz : cz = 0 ∨ cz = 1) (hst : jSt D X t cz n hs r q) (ht : t + 100 ≤ 60000) (rp : i32 p) (rl : i32 l) (rw0 : i32 w) (ri : i32 i) (rh : i32 h) : JM G yX7_addBarge cX7_addBarge 7 (some .int) (d + 5) (0, 0) S D [.inr (.inr (some X)), .inl p, .inl l, .inl w, .inl i, .inl h] (jrP S (jCl D X (t + 100) cz n hs r q (zAddBarge p l w i h r))) := by
  unfold zAddBarge
  by_cases h0 : 0 ≤ p ∧ p < r 0
  · rw [if_pos h0]
    by_cases h1 : 5 ≤ l ∧ l ≤ 60
    · by_cases h2 : 10 ≤ w ∧ w ≤ 500
      · by_cases h3 : 1 ≤ i ∧ i ≤ 20
        · by_cases h4 : 10 ≤ h ∧ h ≤ 1000
          · rw [if_pos ⟨h1, h2, h3, h4⟩]
            by_cases h5 : r 2 = 12
            · rw [if_pos h5]; exact kX7_addBarge_f hB hz hst ht rp rl rw0 ri rh h0 h1 h2 h3 h4 h5
            · rw [if_neg h5]; exact kX7_addBarge_y hB hz hst ht rp rl rw0 ri rh h0 h1 h2 h3 h4 h5
          · rw [if_neg (fun z => h4 z.2.2.2)]; exact kX7_addBarge_b4 hB hz hst ht rp rl rw0 ri rh h0 h1 h2 h3 h4
        · rw [if_neg (fun z => h3 z.2.2.1)]; exact kX7_addBarge_b3 hB hz hst ht rp rl rw0 ri rh h0 h1 h2 h3
      · rw [if_neg (fun z => h2 z.2.1)]; exact kX7_addBarge_b2 hB hz hst ht rp rl rw0 ri rh h0 h1 h2
    · rw [if_neg (fun z => h1 z.1)]; exact kX7_addBarge_b1 hB hz hst ht rp rl rw0 ri rh h0 h1
  · rw [if_neg h0]; exact kX7_addBarge_u hB hz hst ht rp rl rw0 ri rh h0
