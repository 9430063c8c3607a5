/-! margin, account, count -/
abbrev tMost (r : Int → Int) (k c g : Int) : Int := (sLv r (100 + c) - sHg r c g - r 3) * r (67 + 8 * k)
def zMargin (k c g : Int) (r : Int → Int) : Int := if (0 ≤ k ∧ k < r 2) ∧ (0 ≤ c ∧ c < r 1) ∧ (g = 0 ∨ g = 1) then (if tMost r k c g < sW r k then -100000005 else min (tMost r k c g - sW r k) (r (68 + 8 * k) - r (69 + 8 * k) - r (70 + 8 * k))) else -100000001
def tAgr (r : Int → Int) (k : Int) : Int := if sDp r (r (71 + 8 * k)) < sDr r k then 1 else 0
def zAccount (e : Int) (r : Int → Int) : Int := if e = 0 then jsum (sWx r) (r 0).toNat else if e = 1 then jsum (fun k => r (70 + 8 * k)) (r 2).toNat else if e = 2 then jsum (fun k => r (69 + 8 * k)) (r 2).toNat else if e = 3 then jsum (sW r) (r 2).toNat else if e = 4 then r 4 else if e = 5 then r 5 else if e = 6 then jsum (fun k => r (72 + 8 * k)) (r 2).toNat else -100000002
def zCount (e q n z : Int) (r : Int → Int) : Int := if e = 0 then r 0 else if e = 1 then r 1 else if e = 2 then r 2 else if e = 3 then jsum (fun c => if 0 ≤ r (29 + 11 * c) then 1 else 0) (r 1).toNat else if e = 4 then jsum (tAgr r) (r 2).toNat else if e = 5 then jsum (fun c => r (161 + 13 * c)) (r 1).toNat else if e = 6 then r 3 else if e = 7 then q else if e = 8 then n else if e = 9 then z else -100000002
theorem kX7_margin_u1 {G : JG} {S : JS} {D : JD} {d : Nat} {X t cz n q : Int} {hs : Int → Int → Int} {r : Int → Int} {k c g : Int} (hB : jBL S X) (hst : jSt D X t cz n hs r q) (ht : t ≤ 60000) (rk : i32 k) (rc : i32 c) (rg : i32 g) (h : ¬ (0 ≤ k ∧ k < r 2)) : JM G yX7_margin cX7_margin 9 (some .int) (d + 5) (0, 0) S D [.inr (.inr (some X)), .inl k, .inl c, .inl g] (jr (.inl (-100000001)) S D) := by
  have hB0 := hB
  obtain ⟨bk, bf, bh, bs, bo, hF, hH, sk, sl, ok, ot, tk, tl⟩ := id hB
  have fk := hF.1
  have hhk := hH.1
  obtain ⟨s5, s4, hR, hI, hi⟩ := id hst
  have hc := hR.ct hI
  have b1 := hI.1
  have n0 := hR.1.1
  have n1 := hR.1.2.1
  have n2 := hR.1.2.2.1
  show JX _ _ _ _ _ _ _ _ _ _ _ [_, _, _, _, _, _, _, _, _] _ _
  refine x_aload_n dX7_margin_0 rfl ?_
  refine gf_RX7_10 dX7_margin_1 rfl (by assumption) ?_
  rw [bf]
  refine x_iload_n dX7_margin_4 rfl ?_
  refine c_RX7_123d dX7_margin_5 rfl (kX2_bargeAt_n hF hc rk (by omega)) (by assumption) (Nat.le_of_ble_eq_true rfl) (Nat.le_of_ble_eq_true rfl) ⟨Nat.le_refl _, Nat.le_refl _⟩ ?_
  refine x_astore dX7_margin_8 (by decide) ?_
  show JX _ _ _ _ _ _ _ _ _ _ _ [_, _, _, _, _, _, _, _, _] _ _
  refine x_aload_n dX7_margin_10 rfl ?_
  refine gf_RX7_10 dX7_margin_11 rfl (by assumption) ?_
  rw [bf]
  refine x_iload_n dX7_margin_14 rfl ?_
  refine c_RX7_159d dX7_margin_15 rfl (kX2_chamberAt hF hc rc) (by assumption) (Nat.le_of_ble_eq_true rfl) (Nat.le_of_ble_eq_true rfl) ⟨Nat.le_refl _, Nat.le_refl _⟩ ?_
  refine x_astore dX7_margin_18 (by decide) ?_
  show JX _ _ _ _ _ _ _ _ _ _ _ [_, _, _, _, _, _, _, _, _] _ _
  refine x_aload_n dX7_margin_20 rfl ?_
  refine gf_RX7_10 dX7_margin_21 rfl (by assumption) ?_
  rw [bf]
  refine x_iload_n dX7_margin_24 rfl ?_
  refine x_iload_n dX7_margin_25 rfl ?_
  refine c_RX7_74d dX7_margin_26 rfl (kX2_sillAt hF hc rc rg) (by assumption) (Nat.le_of_ble_eq_true rfl) (Nat.le_of_ble_eq_true rfl) ⟨Nat.le_refl _, Nat.le_refl _⟩ ?_
  refine x_astore dX7_margin_29 (by decide) ?_
  show JX _ _ _ _ _ _ _ _ _ _ _ [_, _, _, _, _, _, _, _, _] _ _
  refine x_aload dX7_margin_31 rfl ?_
  refine x_ifnull (tgt := 46) dX7_margin_33 (by decide) (fun hb33 => ?_) (fun h => absurd rfl h)
  refine x_ldc (e := -100000001) dX7_margin_46 ct_RX7_78 (by decide) ?_
  exact x_ireturn dX7_margin_48 rfl rfl ⟨Nat.le_refl _, Nat.le_refl _⟩ ⟨rfl, rfl, rfl⟩
theorem kX7_margin_u2 {G : JG} {S : JS} {D : JD} {d : Nat} {X t cz n q : Int} {hs : Int → Int → Int} {r : Int → Int} {k c g : Int} (hB : jBL S X) (hst : jSt D X t cz n hs r q) (ht : t ≤ 60000) (rc : i32 c) (rg : i32 g) (hk : 0 ≤ k ∧ k < r 2) (h : ¬ (0 ≤ c ∧ c < r 1)) : JM G yX7_margin cX7_margin 9 (some .int) (d + 5) (0, 0) S D [.inr (.inr (some X)), .inl k, .inl c, .inl g] (jr (.inl (-100000001)) S D) := by
  have hB0 := hB
  obtain ⟨bk, bf, bh, bs, bo, hF, hH, sk, sl, ok, ot, tk, tl⟩ := id hB
  have fk := hF.1
  have hhk := hH.1
  obtain ⟨s5, s4, hR, hI, hi⟩ := id hst
  have hc := hR.ct hI
  have b1 := hI.1
  have n0 := hR.1.1
  have n1 := hR.1.2.1
  have n2 := hR.1.2.2.1
  show JX _ _ _ _ _ _ _ _ _ _ _ [_, _, _, _, _, _, _, _, _] _ _
  refine x_aload_n dX7_margin_0 rfl ?_
  refine gf_RX7_10 dX7_margin_1 rfl (by assumption) ?_
  rw [bf]
  refine x_iload_n dX7_margin_4 rfl ?_
  refine c_RX7_123d dX7_margin_5 rfl (kX2_bargeAt_y hF hc (by omega)) (by assumption) (Nat.le_of_ble_eq_true rfl) (Nat.le_of_ble_eq_true rfl) ⟨Nat.le_refl _, Nat.le_refl _⟩ ?_
  refine x_astore dX7_margin_8 (by decide) ?_
  show JX _ _ _ _ _ _ _ _ _ _ _ [_, _, _, _, _, _, _, _, _] _ _
  refine x_aload_n dX7_margin_10 rfl ?_
  refine gf_RX7_10 dX7_margin_11 rfl (by assumption) ?_
  rw [bf]
  refine x_iload_n dX7_margin_14 rfl ?_
  refine c_RX7_159d dX7_margin_15 rfl (kX2_chamberAt_n hF hc rc (by omega)) (by assumption) (Nat.le_of_ble_eq_true rfl) (Nat.le_of_ble_eq_true rfl) ⟨Nat.le_refl _, Nat.le_refl _⟩ ?_
  refine x_astore dX7_margin_18 (by decide) ?_
  show JX _ _ _ _ _ _ _ _ _ _ _ [_, _, _, _, _, _, _, _, _] _ _
  refine x_aload_n dX7_margin_20 rfl ?_
  refine gf_RX7_10 dX7_margin_21 rfl (by assumption) ?_
  rw [bf]
  refine x_iload_n dX7_margin_24 rfl ?_
  refine x_iload_n dX7_margin_25 rfl ?_
  refine c_RX7_74d dX7_margin_26 rfl (kX2_sillAt hF hc rc rg) (by assumption) (Nat.le_of_ble_eq_true rfl) (Nat.le_of_ble_eq_true rfl) ⟨Nat.le_refl _, Nat.le_refl _⟩ ?_
  refine x_astore dX7_margin_29 (by decide) ?_
  show JX _ _ _ _ _ _ _ _ _ _ _ [_, _, _, _, _, _, _, _, _] _ _
  refine x_aload dX7_margin_31 rfl ?_
  refine x_ifnull (tgt := 46) dX7_margin_33 (by decide) (fun h => by cases h) (fun hb33 => ?_)
  refine x_aload dX7_margin_36 rfl ?_
  refine x_ifnull (tgt := 46) dX7_margin_38 (by decide) (fun hb38 => ?_) (fun h => absurd rfl h)
  refine x_ldc (e := -100000001) dX7_margin_46 ct_RX7_78 (by decide) ?_
  exact x_ireturn dX7_margin_48 rfl rfl ⟨Nat.le_refl _, Nat.le_refl _⟩ ⟨rfl, rfl, rfl⟩
theorem kX7_margin_u3 {G : JG} {S : JS} {D : JD} {d : Nat} {X t cz n q : Int} {hs : Int → Int → Int} {r : Int → Int} {k c g : Int} (hB : jBL S X) (hst : jSt D X t cz n hs r q) (ht : t ≤ 60000) (rg : i32 g) (hk : 0 ≤ k ∧ k < r 2) (hcc : 0 ≤ c ∧ c < r 1) (h : ¬ (g = 0 ∨ g = 1)) : JM G yX7_margin cX7_margin 9 (some .int) (d + 5) (0, 0) S D [.inr (.inr (some X)), .inl k, .inl c, .inl g] (jr (.inl (-100000001)) S D) := by
  have hB0 := hB
  obtain ⟨bk, bf, bh, bs, bo, hF, hH, sk, sl, ok, ot, tk, tl⟩ := id hB
  have fk := hF.1
  have hhk := hH.1
  obtain ⟨s5, s4, hR, hI, hi⟩ := id hst
  have hc := hR.ct hI
  have b1 := hI.1
  have n0 := hR.1.1
  have n1 := hR.1.2.1
  have n2 := hR.1.2.2.1
  have hsn : fSi D (X + 1) c g = none := fSi_none (by omega)
  show JX _ _ _ _ _ _ _ _ _ _ _ [_, _, _, _, _, _, _, _, _] _ _
  refine x_aload_n dX7_margin_0 rfl ?_
  refine gf_RX7_10 dX7_margin_1 rfl (by assumption) ?_
  rw [bf]
  refine x_iload_n dX7_margin_4 rfl ?_
  refine c_RX7_123d dX7_margin_5 rfl (kX2_bargeAt_y hF hc (by omega)) (by assumption) (Nat.le_of_ble_eq_true rfl) (Nat.le_of_ble_eq_true rfl) ⟨Nat.le_refl _, Nat.le_refl _⟩ ?_
  refine x_astore dX7_margin_8 (by decide) ?_
  show JX _ _ _ _ _ _ _ _ _ _ _ [_, _, _, _, _, _, _, _, _] _ _
  refine x_aload_n dX7_margin_10 rfl ?_
  refine gf_RX7_10 dX7_margin_11 rfl (by assumption) ?_
  rw [bf]
  refine x_iload_n dX7_margin_14 rfl ?_
  refine c_RX7_159d dX7_margin_15 rfl (kX2_chamberAt_y hF hc (by omega)) (by assumption) (Nat.le_of_ble_eq_true rfl) (Nat.le_of_ble_eq_true rfl) ⟨Nat.le_refl _, Nat.le_refl _⟩ ?_
  refine x_astore dX7_margin_18 (by decide) ?_
  show JX _ _ _ _ _ _ _ _ _ _ _ [_, _, _, _, _, _, _, _, _] _ _
  refine x_aload_n dX7_margin_20 rfl ?_
  refine gf_RX7_10 dX7_margin_21 rfl (by assumption) ?_
  rw [bf]
  refine x_iload_n dX7_margin_24 rfl ?_
  refine x_iload_n dX7_margin_25 rfl ?_
  refine c_RX7_74d dX7_margin_26 rfl (kX2_sillAt hF hc ⟨by omega, by omega⟩ rg) (by assumption) (Nat.le_of_ble_eq_true rfl) (Nat.le_of_ble_eq_true rfl) ⟨Nat.le_refl _, Nat.le_refl _⟩ ?_
  rw [hsn]
  refine x_astore dX7_margin_29 (by decide) ?_
  show JX _ _ _ _ _ _ _ _ _ _ _ [_, _, _, _, _, _, _, _, _] _ _
  refine x_aload dX7_margin_31 rfl ?_
  refine x_ifnull (tgt := 46) dX7_margin_33 (by decide) (fun h => by cases h) (fun hb33 => ?_)
  refine x_aload dX7_margin_36 rfl ?_
  refine x_ifnull (tgt := 46) dX7_margin_38 (by decide) (fun h => by cases h) (fun hb38 => ?_)
  refine x_aload dX7_margin_41 rfl ?_
  refine x_ifnonnull (tgt := 49) dX7_margin_43 (by decide) (fun h => absurd rfl h) (fun hb43 => ?_)
  refine x_ldc (e := -100000001) dX7_margin_46 ct_RX7_78 (by decide) ?_
  exact x_ireturn dX7_margin_48 rfl rfl ⟨Nat.le_refl _, Nat.le_refl _⟩ ⟨rfl, rfl, rfl⟩
theorem kX7_margin_n0 {G : JG} {S : JS} {D : JD} {d : Nat} {X t cz n q : Int} {hs : Int → Int → Int} {r : Int → Int} {k c : Int} (hB : jBL S X) (hst : jSt D X t cz n hs r q) (ht : t ≤ 60000)(k0 : 0 ≤ k) (k1 : k < r 2) (c0 : 0 ≤ c) (c1 : c < r 1) (hm : tMost r k c 0 < sW r k) : JM G yX7_margin cX7_margin 9 (some .int) (d + 5) (0, 0) S D [.inr (.inr (some X)), .inl k, .inl c, .inl 0] (jr (.inl (-100000005)) S D) := by
  have hB0 := hB
  obtain ⟨bk, bf, bh, bs, bo, hF, hH, sk, sl, ok, ot, tk, tl⟩ := id hB
  have fk := hF.1
  have hhk := hH.1
  obtain ⟨s5, s4, hR, hI, hi⟩ := id hst
  have hc := hR.ct hI
  have b1 := hI.1
  have n0 := hR.1.1
  have n1 := hR.1.2.1
  have n2 := hR.1.2.2.1
  have hC := (hF.2.2.2.2.2.2.2.2.2.2.2.1 c c0 (by omega)).2
  have ck := hC.1
  have wp : rPl r (100 + c) := Or.inr ⟨by omega, by omega⟩
  obtain ⟨-, wo2, wm2⟩ := hR.wat hI (by omega) wp
  have dpc := hI.dp wo2 wm2
  have hss : fSi D (X + 1) c 0 = some (X + 1 + 9 + 5 * c + 2) := by unfold fSi; rw [if_pos (by omega)]; rfl
  have hhg := sHg_r hI c0 c1 (g := 0) (by omega)
  have bk := hF.bk hI k0 k1
  obtain ⟨e0, e1, e2, e3, e4, e5, e6, e7⟩ := hR.ba k0 k1
  obtain ⟨bp, w0, w1, i0, i1, d0, d1⟩ := hI.bw k0 k1
  have bo := hI.2.2.2.1 k k0 k1
  unfold rBo at bo
  have hb := mul_bnd (a := r (67 + 8 * k)) (x := sLv r (100 + c) - sHg r c 0 - r 3) (A := 20) (X := 720000000) (by omega) (by omega) (by omega) (by omega)
  rw [Int.mul_comm (r (67 + 8 * k)) _] at hb
  unfold tMost at hm
  generalize hP : (sLv r (100 + c) - sHg r c 0 - r 3) * r (67 + 8 * k) = P at hb hm ⊢
  show JX _ _ _ _ _ _ _ _ _ _ _ [_, _, _, _, _, _, _, _, _] _ _
  refine x_aload_n dX7_margin_0 rfl ?_
  refine gf_RX7_10 dX7_margin_1 rfl (by assumption) ?_
  rw [bf]
  refine x_iload_n dX7_margin_4 rfl ?_
  refine c_RX7_123d dX7_margin_5 rfl (kX2_bargeAt_y hF hc (by omega)) (by assumption) (Nat.le_of_ble_eq_true rfl) (Nat.le_of_ble_eq_true rfl) ⟨Nat.le_refl _, Nat.le_refl _⟩ ?_
  refine x_astore dX7_margin_8 (by decide) ?_
  show JX _ _ _ _ _ _ _ _ _ _ _ [_, _, _, _, _, _, _, _, _] _ _
  refine x_aload_n dX7_margin_10 rfl ?_
  refine gf_RX7_10 dX7_margin_11 rfl (by assumption) ?_
  rw [bf]
  refine x_iload_n dX7_margin_14 rfl ?_
  refine c_RX7_159d dX7_margin_15 rfl (kX2_chamberAt_y hF hc (by omega)) (by assumption) (Nat.le_of_ble_eq_true rfl) (Nat.le_of_ble_eq_true rfl) ⟨Nat.le_refl _, Nat.le_refl _⟩ ?_
  refine x_astore dX7_margin_18 (by decide) ?_
  show JX _ _ _ _ _ _ _ _ _ _ _ [_, _, _, _, _, _, _, _, _] _ _
  refine x_aload_n dX7_margin_20 rfl ?_
  refine gf_RX7_10 dX7_margin_21 rfl (by assumption) ?_
  rw [bf]
  refine x_iload_n dX7_margin_24 rfl ?_
  refine x_iload_n dX7_margin_25 rfl ?_
  refine c_RX7_74d dX7_margin_26 rfl (kX2_sillAt hF hc ⟨by omega, by omega⟩ ⟨by omega, by omega⟩) (by assumption) (Nat.le_of_ble_eq_true rfl) (Nat.le_of_ble_eq_true rfl) ⟨Nat.le_refl _, Nat.le_refl _⟩ ?_
  rw [hss]
  refine x_astore dX7_margin_29 (by decide) ?_
  show JX _ _ _ _ _ _ _ _ _ _ _ [_, _, _, _, _, _, _, _, _] _ _
  refine x_aload dX7_margin_31 rfl ?_
  refine x_ifnull (tgt := 46) dX7_margin_33 (by decide) (fun h => by cases h) (fun hb33 => ?_)
  refine x_aload dX7_margin_36 rfl ?_
  refine x_ifnull (tgt := 46) dX7_margin_38 (by decide) (fun h => by cases h) (fun hb38 => ?_)
  refine x_aload dX7_margin_41 rfl ?_
  refine x_ifnonnull (tgt := 49) dX7_margin_43 (by decide) (fun hb43 => ?_) (fun h => by cases h)
  refine x_aload_n dX7_margin_49 rfl ?_
  refine gf_RX7_10 dX7_margin_50 rfl (by assumption) ?_
  rw [bf]
  refine x_aload dX7_margin_53 rfl ?_
  refine x_aload dX7_margin_55 rfl ?_
  refine c_RX7_202d dX7_margin_57 rfl (kX2_mostDraught_0 hF hR hI (by omega) c0 c1) (by assumption) (Nat.le_of_ble_eq_true rfl) (Nat.le_of_ble_eq_true rfl) ⟨Nat.le_refl _, Nat.le_refl _⟩ ?_
  refine x_aload dX7_margin_60 rfl ?_
  refine gf_RX7_279 dX7_margin_62 rfl (by assumption) ?_
  rw [e2]
  refine x_i2l dX7_margin_65 ⟨by omega, by omega⟩ ?_
  refine x_lmul dX7_margin_66 ?_
  rw [hP]
  refine x_lstore dX7_margin_67 (by decide) ?_
  show JX _ _ _ _ _ _ _ _ _ _ _ [_, _, _, _, _, _, _, _, _] _ _
  refine x_aload dX7_margin_69 rfl ?_
  refine c_RX7_282d dX7_margin_71 rfl (kR_weight hF hR hI k0 k1) (by assumption) (Nat.le_of_ble_eq_true rfl) (Nat.le_of_ble_eq_true rfl) ⟨Nat.le_refl _, Nat.le_refl _⟩ ?_
  refine x_i2l dX7_margin_74 ⟨by omega, by omega⟩ ?_
  refine x_lload dX7_margin_75 rfl ?_
  refine x_lc_le (tgt := 84) dX7_margin_77 dX7_margin_78 (by decide) ⟨by omega, by omega⟩ ⟨by omega, by omega⟩ (fun h => absurd h (by omega)) (fun hb78 => ?_)
  refine x_ldc (e := -100000005) dX7_margin_81 ct_RX7_90 (by decide) ?_
  exact x_ireturn dX7_margin_83 rfl rfl ⟨Nat.le_refl _, Nat.le_refl _⟩ ⟨rfl, rfl, rfl⟩
theorem kX7_margin_y0 {G : JG} {S : JS} {D : JD} {d : Nat} {X t cz n q : Int} {hs : Int → Int → Int} {r : Int → Int} {k c : Int} (hB : jBL S X) (hst : jSt D X t cz n hs r q) (ht : t ≤ 60000)(k0 : 0 ≤ k) (k1 : k < r 2) (c0 : 0 ≤ c) (c1 : c < r 1) (hm : ¬ tMost r k c 0 < sW r k) : JM G yX7_margin cX7_margin 9 (some .int) (d + 5) (0, 0) S D [.inr (.inr (some X)), .inl k, .inl c, .inl 0] (jr (.inl (min (tMost r k c 0 - sW r k) (r (68 + 8 * k) - r (69 + 8 * k) - r (70 + 8 * k)))) S D) := by
  have hB0 := hB
  obtain ⟨bk, bf, bh, bs, bo, hF, hH, sk, sl, ok, ot, tk, tl⟩ := id hB
  have fk := hF.1
  have hhk := hH.1
  obtain ⟨s5, s4, hR, hI, hi⟩ := id hst
  have hc := hR.ct hI
  have b1 := hI.1
  have n0 := hR.1.1
  have n1 := hR.1.2.1
  have n2 := hR.1.2.2.1
  have hC := (hF.2.2.2.2.2.2.2.2.2.2.2.1 c c0 (by omega)).2
  have ck := hC.1
  have wp : rPl r (100 + c) := Or.inr ⟨by omega, by omega⟩
  obtain ⟨-, wo2, wm2⟩ := hR.wat hI (by omega) wp
  have dpc := hI.dp wo2 wm2
  have hss : fSi D (X + 1) c 0 = some (X + 1 + 9 + 5 * c + 2) := by unfold fSi; rw [if_pos (by omega)]; rfl
  have hhg := sHg_r hI c0 c1 (g := 0) (by omega)
  have bk := hF.bk hI k0 k1
  obtain ⟨e0, e1, e2, e3, e4, e5, e6, e7⟩ := hR.ba k0 k1
  obtain ⟨bp, w0, w1, i0, i1, d0, d1⟩ := hI.bw k0 k1
  have bo := hI.2.2.2.1 k k0 k1
  unfold rBo at bo
  have hb := mul_bnd (a := r (67 + 8 * k)) (x := sLv r (100 + c) - sHg r c 0 - r 3) (A := 20) (X := 720000000) (by omega) (by omega) (by omega) (by omega)
  rw [Int.mul_comm (r (67 + 8 * k)) _] at hb
  unfold tMost at hm
  unfold tMost
  generalize hP : (sLv r (100 + c) - sHg r c 0 - r 3) * r (67 + 8 * k) = P at hb hm ⊢
  show JX _ _ _ _ _ _ _ _ _ _ _ [_, _, _, _, _, _, _, _, _] _ _
  refine x_aload_n dX7_margin_0 rfl ?_
  refine gf_RX7_10 dX7_margin_1 rfl (by assumption) ?_
  rw [bf]
  refine x_iload_n dX7_margin_4 rfl ?_
  refine c_RX7_123d dX7_margin_5 rfl (kX2_bargeAt_y hF hc (by omega)) (by assumption) (Nat.le_of_ble_eq_true rfl) (Nat.le_of_ble_eq_true rfl) ⟨Nat.le_refl _, Nat.le_refl _⟩ ?_
  refine x_astore dX7_margin_8 (by decide) ?_
  show JX _ _ _ _ _ _ _ _ _ _ _ [_, _, _, _, _, _, _, _, _] _ _
  refine x_aload_n dX7_margin_10 rfl ?_
  refine gf_RX7_10 dX7_margin_11 rfl (by assumption) ?_
  rw [bf]
  refine x_iload_n dX7_margin_14 rfl ?_
  refine c_RX7_159d dX7_margin_15 rfl (kX2_chamberAt_y hF hc (by omega)) (by assumption) (Nat.le_of_ble_eq_true rfl) (Nat.le_of_ble_eq_true rfl) ⟨Nat.le_refl _, Nat.le_refl _⟩ ?_
  refine x_astore dX7_margin_18 (by decide) ?_
  show JX _ _ _ _ _ _ _ _ _ _ _ [_, _, _, _, _, _, _, _, _] _ _
  refine x_aload_n dX7_margin_20 rfl ?_
  refine gf_RX7_10 dX7_margin_21 rfl (by assumption) ?_
  rw [bf]
  refine x_iload_n dX7_margin_24 rfl ?_
  refine x_iload_n dX7_margin_25 rfl ?_
  refine c_RX7_74d dX7_margin_26 rfl (kX2_sillAt hF hc ⟨by omega, by omega⟩ ⟨by omega, by omega⟩) (by assumption) (Nat.le_of_ble_eq_true rfl) (Nat.le_of_ble_eq_true rfl) ⟨Nat.le_refl _, Nat.le_refl _⟩ ?_
  rw [hss]
  refine x_astore dX7_margin_29 (by decide) ?_
  show JX _ _ _ _ _ _ _ _ _ _ _ [_, _, _, _, _, _, _, _, _] _ _
  refine x_aload dX7_margin_31 rfl ?_
  refine x_ifnull (tgt := 46) dX7_margin_33 (by decide) (fun h => by cases h) (fun hb33 => ?_)
  refine x_aload dX7_margin_36 rfl ?_
  refine x_ifnull (tgt := 46) dX7_margin_38 (by decide) (fun h => by cases h) (fun hb38 => ?_)
  refine x_aload dX7_margin_41 rfl ?_
  refine x_ifnonnull (tgt := 49) dX7_margin_43 (by decide) (fun hb43 => ?_) (fun h => by cases h)
  refine x_aload_n dX7_margin_49 rfl ?_
  refine gf_RX7_10 dX7_margin_50 rfl (by assumption) ?_
  rw [bf]
  refine x_aload dX7_margin_53 rfl ?_
  refine x_aload dX7_margin_55 rfl ?_
  refine c_RX7_202d dX7_margin_57 rfl (kX2_mostDraught_0 hF hR hI (by omega) c0 c1) (by assumption) (Nat.le_of_ble_eq_true rfl) (Nat.le_of_ble_eq_true rfl) ⟨Nat.le_refl _, Nat.le_refl _⟩ ?_
  refine x_aload dX7_margin_60 rfl ?_
  refine gf_RX7_279 dX7_margin_62 rfl (by assumption) ?_
  rw [e2]
  refine x_i2l dX7_margin_65 ⟨by omega, by omega⟩ ?_
  refine x_lmul dX7_margin_66 ?_
  rw [hP]
  refine x_lstore dX7_margin_67 (by decide) ?_
  show JX _ _ _ _ _ _ _ _ _ _ _ [_, _, _, _, _, _, _, _, _] _ _
  refine x_aload dX7_margin_69 rfl ?_
  refine c_RX7_282d dX7_margin_71 rfl (kR_weight hF hR hI k0 k1) (by assumption) (Nat.le_of_ble_eq_true rfl) (Nat.le_of_ble_eq_true rfl) ⟨Nat.le_refl _, Nat.le_refl _⟩ ?_
  refine x_i2l dX7_margin_74 ⟨by omega, by omega⟩ ?_
  refine x_lload dX7_margin_75 rfl ?_
  refine x_lc_le (tgt := 84) dX7_margin_77 dX7_margin_78 (by decide) ⟨by omega, by omega⟩ ⟨by omega, by omega⟩ (fun hb78 => ?_) (fun h => (h (by omega)).elim)
  refine x_lload dX7_margin_84 rfl ?_
  refine x_aload dX7_margin_86 rfl ?_
  refine c_RX7_282d dX7_margin_88 rfl (kR_weight hF hR hI k0 k1) (by assumption) (Nat.le_of_ble_eq_true rfl) (Nat.le_of_ble_eq_true rfl) ⟨Nat.le_refl _, Nat.le_refl _⟩ ?_
  refine x_i2l dX7_margin_91 ⟨by omega, by omega⟩ ?_
  refine x_lsub dX7_margin_92 ?_
  refine x_aload dX7_margin_93 rfl ?_
  refine c_RX7_146d dX7_margin_95 rfl (kR_freeHold hF hR hI k0 k1) (by assumption) (Nat.le_of_ble_eq_true rfl) (Nat.le_of_ble_eq_true rfl) ⟨Nat.le_refl _, Nat.le_refl _⟩ ?_
  refine x_i2l dX7_margin_98 ⟨by omega, by omega⟩ ?_
  refine c_RX7_285d dX7_margin_99 rfl (kJ9_minl ⟨by omega, by omega⟩ ⟨by omega, by omega⟩) (Nat.le_of_ble_eq_true rfl) (Nat.le_of_ble_eq_true rfl) ⟨Nat.le_refl _, Nat.le_refl _⟩ ?_
  refine x_l2i dX7_margin_102 ?_
  exact x_ireturn dX7_margin_103 rfl rfl ⟨Nat.le_refl _, Nat.le_refl _⟩ ⟨rfl, rfl, rfl⟩
theorem kX7_margin_n1 {G : JG} {S : JS} {D : JD} {d : Nat} {X t cz n q : Int} {hs : Int → Int → Int} {r : Int → Int} {k c : Int} (hB : jBL S X) (hst : jSt D X t cz n hs r q) (ht : t ≤ 60000)(k0 : 0 ≤ k) (k1 : k < r 2) (c0 : 0 ≤ c) (c1 : c < r 1) (hm : tMost r k c 1 < sW r k) : JM G yX7_margin cX7_margin 9 (some .int) (d + 5) (0, 0) S D [.inr (.inr (some X)), .inl k, .inl c, .inl 1] (jr (.inl (-100000005)) S D) := by
  have hB0 := hB
  obtain ⟨bk, bf, bh, bs, bo, hF, hH, sk, sl, ok, ot, tk, tl⟩ := id hB
  have fk := hF.1
  have hhk := hH.1
  obtain ⟨s5, s4, hR, hI, hi⟩ := id hst
  have hc := hR.ct hI
  have b1 := hI.1
  have n0 := hR.1.1
  have n1 := hR.1.2.1
  have n2 := hR.1.2.2.1
  have hC := (hF.2.2.2.2.2.2.2.2.2.2.2.1 c c0 (by omega)).2
  have ck := hC.1
  have wp : rPl r (100 + c) := Or.inr ⟨by omega, by omega⟩
  obtain ⟨-, wo2, wm2⟩ := hR.wat hI (by omega) wp
  have dpc := hI.dp wo2 wm2
  have hss : fSi D (X + 1) c 1 = some (X + 1 + 9 + 5 * c + 3) := by unfold fSi; rw [if_pos (by omega)]; rfl
  have hhg := sHg_r hI c0 c1 (g := 1) (by omega)
  have bk := hF.bk hI k0 k1
  obtain ⟨e0, e1, e2, e3, e4, e5, e6, e7⟩ := hR.ba k0 k1
  obtain ⟨bp, w0, w1, i0, i1, d0, d1⟩ := hI.bw k0 k1
  have bo := hI.2.2.2.1 k k0 k1
  unfold rBo at bo
  have hb := mul_bnd (a := r (67 + 8 * k)) (x := sLv r (100 + c) - sHg r c 1 - r 3) (A := 20) (X := 720000000) (by omega) (by omega) (by omega) (by omega)
  rw [Int.mul_comm (r (67 + 8 * k)) _] at hb
  unfold tMost at hm
  generalize hP : (sLv r (100 + c) - sHg r c 1 - r 3) * r (67 + 8 * k) = P at hb hm ⊢
  show JX _ _ _ _ _ _ _ _ _ _ _ [_, _, _, _, _, _, _, _, _] _ _
  refine x_aload_n dX7_margin_0 rfl ?_
  refine gf_RX7_10 dX7_margin_1 rfl (by assumption) ?_
  rw [bf]
  refine x_iload_n dX7_margin_4 rfl ?_
  refine c_RX7_123d dX7_margin_5 rfl (kX2_bargeAt_y hF hc (by omega)) (by assumption) (Nat.le_of_ble_eq_true rfl) (Nat.le_of_ble_eq_true rfl) ⟨Nat.le_refl _, Nat.le_refl _⟩ ?_
  refine x_astore dX7_margin_8 (by decide) ?_
  show JX _ _ _ _ _ _ _ _ _ _ _ [_, _, _, _, _, _, _, _, _] _ _
  refine x_aload_n dX7_margin_10 rfl ?_
  refine gf_RX7_10 dX7_margin_11 rfl (by assumption) ?_
  rw [bf]
  refine x_iload_n dX7_margin_14 rfl ?_
  refine c_RX7_159d dX7_margin_15 rfl (kX2_chamberAt_y hF hc (by omega)) (by assumption) (Nat.le_of_ble_eq_true rfl) (Nat.le_of_ble_eq_true rfl) ⟨Nat.le_refl _, Nat.le_refl _⟩ ?_
  refine x_astore dX7_margin_18 (by decide) ?_
  show JX _ _ _ _ _ _ _ _ _ _ _ [_, _, _, _, _, _, _, _, _] _ _
  refine x_aload_n dX7_margin_20 rfl ?_
  refine gf_RX7_10 dX7_margin_21 rfl (by assumption) ?_
  rw [bf]
  refine x_iload_n dX7_margin_24 rfl ?_
  refine x_iload_n dX7_margin_25 rfl ?_
  refine c_RX7_74d dX7_margin_26 rfl (kX2_sillAt hF hc ⟨by omega, by omega⟩ ⟨by omega, by omega⟩) (by assumption) (Nat.le_of_ble_eq_true rfl) (Nat.le_of_ble_eq_true rfl) ⟨Nat.le_refl _, Nat.le_refl _⟩ ?_
  rw [hss]
  refine x_astore dX7_margin_29 (by decide) ?_
  show JX _ _ _ _ _ _ _ _ _ _ _ [_, _, _, _, _, _, _, _, _] _ _
  refine x_aload dX7_margin_31 rfl ?_
  refine x_ifnull (tgt := 46) dX7_margin_33 (by decide) (fun h => by cases h) (fun hb33 => ?_)
  refine x_aload dX7_margin_36 rfl ?_
  refine x_ifnull (tgt := 46) dX7_margin_38 (by decide) (fun h => by cases h) (fun hb38 => ?_)
  refine x_aload dX7_margin_41 rfl ?_
  refine x_ifnonnull (tgt := 49) dX7_margin_43 (by decide) (fun hb43 => ?_) (fun h => by cases h)
  refine x_aload_n dX7_margin_49 rfl ?_
  refine gf_RX7_10 dX7_margin_50 rfl (by assumption) ?_
  rw [bf]
  refine x_aload dX7_margin_53 rfl ?_
  refine x_aload dX7_margin_55 rfl ?_
  refine c_RX7_202d dX7_margin_57 rfl (kX2_mostDraught_1 hF hR hI (by omega) c0 c1) (by assumption) (Nat.le_of_ble_eq_true rfl) (Nat.le_of_ble_eq_true rfl) ⟨Nat.le_refl _, Nat.le_refl _⟩ ?_
  refine x_aload dX7_margin_60 rfl ?_
  refine gf_RX7_279 dX7_margin_62 rfl (by assumption) ?_
  rw [e2]
  refine x_i2l dX7_margin_65 ⟨by omega, by omega⟩ ?_
  refine x_lmul dX7_margin_66 ?_
  rw [hP]
  refine x_lstore dX7_margin_67 (by decide) ?_
  show JX _ _ _ _ _ _ _ _ _ _ _ [_, _, _, _, _, _, _, _, _] _ _
  refine x_aload dX7_margin_69 rfl ?_
  refine c_RX7_282d dX7_margin_71 rfl (kR_weight hF hR hI k0 k1) (by assumption) (Nat.le_of_ble_eq_true rfl) (Nat.le_of_ble_eq_true rfl) ⟨Nat.le_refl _, Nat.le_refl _⟩ ?_
  refine x_i2l dX7_margin_74 ⟨by omega, by omega⟩ ?_
  refine x_lload dX7_margin_75 rfl ?_
  refine x_lc_le (tgt := 84) dX7_margin_77 dX7_margin_78 (by decide) ⟨by omega, by omega⟩ ⟨by omega, by omega⟩ (fun h => absurd h (by omega)) (fun hb78 => ?_)
  refine x_ldc (e := -100000005) dX7_margin_81 ct_RX7_90 (by decide) ?_
  exact x_ireturn dX7_margin_83 rfl rfl ⟨Nat.le_refl _, Nat.le_refl _⟩ ⟨rfl, rfl, rfl⟩
theorem kX7_margin_y1 {G : JG} {S : JS} {D : JD} {d : Nat} {X t cz n q : Int} {hs : Int → Int → Int} {r : Int → Int} {k c : Int} (hB : jBL S X) (hst : jSt D X t cz n hs r q) (ht : t ≤ 60000)(k0 : 0 ≤ k) (k1 : k < r 2) (c0 : 0 ≤ c) (c1 : c < r 1) (hm : ¬ tMost r k c 1 < sW r k) : JM G yX7_margin cX7_margin 9 (some .int) (d + 5) (0, 0) S D [.inr (.inr (some X)), .inl k, .inl c, .inl 1] (jr (.inl (min (tMost r k c 1 - sW r k) (r (68 + 8 * k) - r (69 + 8 * k) - r (70 + 8 * k)))) S D) := by
  have hB0 := hB
  obtain ⟨bk, bf, bh, bs, bo, hF, hH, sk, sl, ok, ot, tk, tl⟩ := id hB
  have fk := hF.1
  have hhk := hH.1
  obtain ⟨s5, s4, hR, hI, hi⟩ := id hst
  have hc := hR.ct hI
  have b1 := hI.1
  have n0 := hR.1.1
  have n1 := hR.1.2.1
  have n2 := hR.1.2.2.1
  have hC := (hF.2.2.2.2.2.2.2.2.2.2.2.1 c c0 (by omega)).2
  have ck := hC.1
  have wp : rPl r (100 + c) := Or.inr ⟨by omega, by omega⟩
  obtain ⟨-, wo2, wm2⟩ := hR.wat hI (by omega) wp
  have dpc := hI.dp wo2 wm2
  have hss : fSi D (X + 1) c 1 = some (X + 1 + 9 + 5 * c + 3) := by unfold fSi; rw [if_pos (by omega)]; rfl
  have hhg := sHg_r hI c0 c1 (g := 1) (by omega)
  have bk := hF.bk hI k0 k1
  obtain ⟨e0, e1, e2, e3, e4, e5, e6, e7⟩ := hR.ba k0 k1
  obtain ⟨bp, w0, w1, i0, i1, d0, d1⟩ := hI.bw k0 k1
  have bo := hI.2.2.2.1 k k0 k1
  unfold rBo at bo
  have hb := mul_bnd (a := r (67 + 8 * k)) (x := sLv r (100 + c) - sHg r c 1 - r 3) (A := 20) (X := 720000000) (by omega) (by omega) (by omega) (by omega)
  rw [Int.mul_comm (r (67 + 8 * k)) _] at hb
  unfold tMost at hm
  unfold tMost
  generalize hP : (sLv r (100 + c) - sHg r c 1 - r 3) * r (67 + 8 * k) = P at hb hm ⊢
  show JX _ _ _ _ _ _ _ _ _ _ _ [_, _, _, _, _, _, _, _, _] _ _
  refine x_aload_n dX7_margin_0 rfl ?_
  refine gf_RX7_10 dX7_margin_1 rfl (by assumption) ?_
  rw [bf]
  refine x_iload_n dX7_margin_4 rfl ?_
  refine c_RX7_123d dX7_margin_5 rfl (kX2_bargeAt_y hF hc (by omega)) (by assumption) (Nat.le_of_ble_eq_true rfl) (Nat.le_of_ble_eq_true rfl) ⟨Nat.le_refl _, Nat.le_refl _⟩ ?_
  refine x_astore dX7_margin_8 (by decide) ?_
  show JX _ _ _ _ _ _ _ _ _ _ _ [_, _, _, _, _, _, _, _, _] _ _
  refine x_aload_n dX7_margin_10 rfl ?_
  refine gf_RX7_10 dX7_margin_11 rfl (by assumption) ?_
  rw [bf]
  refine x_iload_n dX7_margin_14 rfl ?_
  refine c_RX7_159d dX7_margin_15 rfl (kX2_chamberAt_y hF hc (by omega)) (by assumption) (Nat.le_of_ble_eq_true rfl) (Nat.le_of_ble_eq_true rfl) ⟨Nat.le_refl _, Nat.le_refl _⟩ ?_
  refine x_astore dX7_margin_18 (by decide) ?_
  show JX _ _ _ _ _ _ _ _ _ _ _ [_, _, _, _, _, _, _, _, _] _ _
  refine x_aload_n dX7_margin_20 rfl ?_
  refine gf_RX7_10 dX7_margin_21 rfl (by assumption) ?_
  rw [bf]
  refine x_iload_n dX7_margin_24 rfl ?_
  refine x_iload_n dX7_margin_25 rfl ?_
  refine c_RX7_74d dX7_margin_26 rfl (kX2_sillAt hF hc ⟨by omega, by omega⟩ ⟨by omega, by omega⟩) (by assumption) (Nat.le_of_ble_eq_true rfl) (Nat.le_of_ble_eq_true rfl) ⟨Nat.le_refl _, Nat.le_refl _⟩ ?_
  rw [hss]
  refine x_astore dX7_margin_29 (by decide) ?_
  show JX _ _ _ _ _ _ _ _ _ _ _ [_, _, _, _, _, _, _, _, _] _ _
  refine x_aload dX7_margin_31 rfl ?_
  refine x_ifnull (tgt := 46) dX7_margin_33 (by decide) (fun h => by cases h) (fun hb33 => ?_)
  refine x_aload dX7_margin_36 rfl ?_
  refine x_ifnull (tgt := 46) dX7_margin_38 (by decide) (fun h => by cases h) (fun hb38 => ?_)
  refine x_aload dX7_margin_41 rfl ?_
  refine x_ifnonnull (tgt := 49) dX7_margin_43 (by decide) (fun hb43 => ?_) (fun h => by cases h)
  refine x_aload_n dX7_margin_49 rfl ?_
  refine gf_RX7_10 dX7_margin_50 rfl (by assumption) ?_
  rw [bf]
  refine x_aload dX7_margin_53 rfl ?_
  refine x_aload dX7_margin_55 rfl ?_
  refine c_RX7_202d dX7_margin_57 rfl (kX2_mostDraught_1 hF hR hI (by omega) c0 c1) (by assumption) (Nat.le_of_ble_eq_true rfl) (Nat.le_of_ble_eq_true rfl) ⟨Nat.le_refl _, Nat.le_refl _⟩ ?_
  refine x_aload dX7_margin_60 rfl ?_
  refine gf_RX7_279 dX7_margin_62 rfl (by assumption) ?_
  rw [e2]
  refine x_i2l dX7_margin_65 ⟨by omega, by omega⟩ ?_
  refine x_lmul dX7_margin_66 ?_
  rw [hP]
  refine x_lstore dX7_margin_67 (by decide) ?_
  show JX _ _ _ _ _ _ _ _ _ _ _ [_, _, _, _, _, _, _, _, _] _ _
  refine x_aload dX7_margin_69 rfl ?_
  refine c_RX7_282d dX7_margin_71 rfl (kR_weight hF hR hI k0 k1) (by assumption) (Nat.le_of_ble_eq_true rfl) (Nat.le_of_ble_eq_true rfl) ⟨Nat.le_refl _, Nat.le_refl _⟩ ?_
  refine x_i2l dX7_margin_74 ⟨by omega, by omega⟩ ?_
  refine x_lload dX7_margin_75 rfl ?_
  refine x_lc_le (tgt := 84) dX7_margin_77 dX7_margin_78 (by decide) ⟨by omega, by omega⟩ ⟨by omega, by omega⟩ (fun hb78 => ?_) (fun h => (h (by omega)).elim)
  refine x_lload dX7_margin_84 rfl ?_
  refine x_aload dX7_margin_86 rfl ?_
  refine c_RX7_282d dX7_margin_88 rfl (kR_weight hF hR hI k0 k1) (by assumption) (Nat.le_of_ble_eq_true rfl) (Nat.le_of_ble_eq_true rfl) ⟨Nat.le_refl _, Nat.le_refl _⟩ ?_
  refine x_i2l dX7_margin_91 ⟨by omega, by omega⟩ ?_
  refine x_lsub dX7_margin_92 ?_
  refine x_aload dX7_margin_93 rfl ?_
  refine c_RX7_146d dX7_margin_95 rfl (kR_freeHold hF hR hI k0 k1) (by assumption) (Nat.le_of_ble_eq_true rfl) (Nat.le_of_ble_eq_true rfl) ⟨Nat.le_refl _, Nat.le_refl _⟩ ?_
  refine x_i2l dX7_margin_98 ⟨by omega, by omega⟩ ?_
  refine c_RX7_285d dX7_margin_99 rfl (kJ9_minl ⟨by omega, by omega⟩ ⟨by omega, by omega⟩) (Nat.le_of_ble_eq_true rfl) (Nat.le_of_ble_eq_true rfl) ⟨Nat.le_refl _, Nat.le_refl _⟩ ?_
  refine x_l2i dX7_margin_102 ?_
  exact x_ireturn dX7_margin_103 rfl rfl ⟨Nat.le_refl _, Nat.le_refl _⟩ ⟨rfl, rfl, rfl⟩
theorem kX7_margin {G : JG} {S : JS} {D : JD} {d : Nat} {X t cz n q : Int} {hs : Int → Int → Int} {r : Int → Int} {k c g : Int} (hB : jBL S X) (hst : jSt D X t cz n hs r q) (ht : t ≤ 60000) (rk : i32 k) (rc : i32 c) (rg : i32 g) : JM G yX7_margin cX7_margin 9 (some .int) (d + 5) (0, 0) S D [.inr (.inr (some X)), .inl k, .inl c, .inl g] (jr (.inl (zMargin k c g r)) S D) := by
  unfold zMargin
  by_cases h : (0 ≤ k ∧ k < r 2) ∧ (0 ≤ c ∧ c < r 1) ∧ (g = 0 ∨ g = 1)
  · rw [if_pos h]; (
    obtain ⟨⟨k0, k1⟩, ⟨c0, c1⟩, hg⟩ := h
    rcases hg with rfl | rfl
    · by_cases hm : tMost r k c 0 < sW r k
      · rw [if_pos hm]; exact kX7_margin_n0 hB hst ht k0 k1 c0 c1 hm
      · rw [if_neg hm]; exact kX7_margin_y0 hB hst ht k0 k1 c0 c1 hm
    · by_cases hm : tMost r k c 1 < sW r k
      · rw [if_pos hm]; exact kX7_margin_n1 hB hst ht k0 k1 c0 c1 hm
      · rw [if_neg hm]; exact kX7_margin_y1 hB hst ht k0 k1 c0 c1 hm)
  · rw [if_neg h]; (
    by_cases hk : 0 ≤ k ∧ k < r 2
    · by_cases hc : 0 ≤ c ∧ c < r 1
      · exact kX7_margin_u3 hB hst ht rg hk hc (fun z => h ⟨hk, hc, z⟩)
      · exact kX7_margin_u2 hB hst ht rc rg hk hc
    · exact kX7_margin_u1 hB hst ht rk rc rg hk)
theorem kX7_account_0 {G : JG} {S : JS} {D : JD} {d : Nat} {X t cz n q : Int} {hs : Int → Int → Int} {r : Int → Int} (hB : jBL S X) (hst : jSt D X t cz n hs r q) (ht : t ≤ 60000) : JM G yX7_account cX7_account 2 (some .long) (d + 6) (0, 0) S D [.inr (.inr (some X)), .inl 0] (jr (.inr (.inl (jsum (sWx r) (r 0).toNat))) S D) := by
  have hB0 := hB
  obtain ⟨bk, bf, bh, bs, bo, hF, hH, sk, sl, ok, ot, tk, tl⟩ := id hB
  have fk := hF.1
  have hhk := hH.1
  obtain ⟨s5, s4, hR, hI, hi⟩ := id hst
  have hc := hR.ct hI
  have b1 := hI.1
  show JX _ _ _ _ _ _ _ _ _ _ _ [_, _] _ _
  refine x_iload_n dX7_account_0 rfl ?_
  refine x_switch (tgt := 44) dX7_account_1 ⟨by omega, by omega⟩ (by decide) (by decide) ?_
  refine x_aload_n dX7_account_44 rfl ?_
  refine gf_RX7_10 dX7_account_45 rfl (by assumption) ?_
  rw [bf]
  refine c_RX7_293d dX7_account_48 rfl (kX2_allWater hF hR hI (by omega)) (by assumption) (Nat.le_of_ble_eq_true rfl) (Nat.le_of_ble_eq_true rfl) ⟨Nat.le_refl _, Nat.le_refl _⟩ ?_
  exact x_lreturn dX7_account_51 rfl ⟨Nat.le_refl _, Nat.le_refl _⟩ ⟨rfl, rfl, rfl⟩
theorem kX7_account_1 {G : JG} {S : JS} {D : JD} {d : Nat} {X t cz n q : Int} {hs : Int → Int → Int} {r : Int → Int} (hB : jBL S X) (hst : jSt D X t cz n hs r q) (ht : t ≤ 60000) : JM G yX7_account cX7_account 2 (some .long) (d + 6) (0, 0) S D [.inr (.inr (some X)), .inl 1] (jr (.inr (.inl (jsum (fun k => r (70 + 8 * k)) (r 2).toNat))) S D) := by
  have hB0 := hB
  obtain ⟨bk, bf, bh, bs, bo, hF, hH, sk, sl, ok, ot, tk, tl⟩ := id hB
  have fk := hF.1
  have hhk := hH.1
  obtain ⟨s5, s4, hR, hI, hi⟩ := id hst
  have hc := hR.ct hI
  have b1 := hI.1
  show JX _ _ _ _ _ _ _ _ _ _ _ [_, _] _ _
  refine x_iload_n dX7_account_0 rfl ?_
  refine x_switch (tgt := 52) dX7_account_1 ⟨by omega, by omega⟩ (by decide) (by decide) ?_
  refine x_aload_n dX7_account_52 rfl ?_
  refine gf_RX7_10 dX7_account_53 rfl (by assumption) ?_
  rw [bf]
  refine x_iconst dX7_account_56 ?_
  refine c_RX7_296d dX7_account_57 rfl (kX2_sumOfBarges (f := fun k => r (70 + 8 * k)) hF hR hI (by omega) (fun k x y => kX2_propertyOf_4 hF hR hI (by omega) x y) (fun k x y => by have bo := hI.2.2.2.1 k x y; unfold rBo at bo; have bz : i32 (r (70 + 8 * k)) := ⟨by omega, by omega⟩; exact bz)) (by assumption) (Nat.le_of_ble_eq_true rfl) (Nat.le_of_ble_eq_true rfl) ⟨Nat.le_refl _, Nat.le_refl _⟩ ?_
  exact x_lreturn dX7_account_60 rfl ⟨Nat.le_refl _, Nat.le_refl _⟩ ⟨rfl, rfl, rfl⟩
theorem kX7_account_2 {G : JG} {S : JS} {D : JD} {d : Nat} {X t cz n q : Int} {hs : Int → Int → Int} {r : Int → Int} (hB : jBL S X) (hst : jSt D X t cz n hs r q) (ht : t ≤ 60000) : JM G yX7_account cX7_account 2 (some .long) (d + 6) (0, 0) S D [.inr (.inr (some X)), .inl 2] (jr (.inr (.inl (jsum (fun k => r (69 + 8 * k)) (r 2).toNat))) S D) := by
  have hB0 := hB
  obtain ⟨bk, bf, bh, bs, bo, hF, hH, sk, sl, ok, ot, tk, tl⟩ := id hB
  have fk := hF.1
  have hhk := hH.1
  obtain ⟨s5, s4, hR, hI, hi⟩ := id hst
  have hc := hR.ct hI
  have b1 := hI.1
  show JX _ _ _ _ _ _ _ _ _ _ _ [_, _] _ _
  refine x_iload_n dX7_account_0 rfl ?_
  refine x_switch (tgt := 61) dX7_account_1 ⟨by omega, by omega⟩ (by decide) (by decide) ?_
  refine x_aload_n dX7_account_61 rfl ?_
  refine gf_RX7_10 dX7_account_62 rfl (by assumption) ?_
  rw [bf]
  refine x_iconst dX7_account_65 ?_
  refine c_RX7_296d dX7_account_66 rfl (kX2_sumOfBarges (f := fun k => r (69 + 8 * k)) hF hR hI (by omega) (fun k x y => kX2_propertyOf_3 hF hR hI (by omega) x y) (fun k x y => by have bo := hI.2.2.2.1 k x y; unfold rBo at bo; have bz : i32 (r (69 + 8 * k)) := ⟨by omega, by omega⟩; exact bz)) (by assumption) (Nat.le_of_ble_eq_true rfl) (Nat.le_of_ble_eq_true rfl) ⟨Nat.le_refl _, Nat.le_refl _⟩ ?_
  exact x_lreturn dX7_account_69 rfl ⟨Nat.le_refl _, Nat.le_refl _⟩ ⟨rfl, rfl, rfl⟩
theorem kX7_account_3 {G : JG} {S : JS} {D : JD} {d : Nat} {X t cz n q : Int} {hs : Int → Int → Int} {r : Int → Int} (hB : jBL S X) (hst : jSt D X t cz n hs r q) (ht : t ≤ 60000) : JM G yX7_account cX7_account 2 (some .long) (d + 6) (0, 0) S D [.inr (.inr (some X)), .inl 3] (jr (.inr (.inl (jsum (sW r) (r 2).toNat))) S D) := by
  have hB0 := hB
  obtain ⟨bk, bf, bh, bs, bo, hF, hH, sk, sl, ok, ot, tk, tl⟩ := id hB
  have fk := hF.1
  have hhk := hH.1
  obtain ⟨s5, s4, hR, hI, hi⟩ := id hst
  have hc := hR.ct hI
  have b1 := hI.1
  show JX _ _ _ _ _ _ _ _ _ _ _ [_, _] _ _
  refine x_iload_n dX7_account_0 rfl ?_
  refine x_switch (tgt := 70) dX7_account_1 ⟨by omega, by omega⟩ (by decide) (by decide) ?_
  refine x_aload_n dX7_account_70 rfl ?_
  refine gf_RX7_10 dX7_account_71 rfl (by assumption) ?_
  rw [bf]
  refine x_iconst dX7_account_74 ?_
  refine c_RX7_296d dX7_account_75 rfl (kX2_sumOfBarges (f := sW r) hF hR hI (by omega) (fun k x y => kX2_propertyOf_1 hF hR hI (by omega) x y) (fun k x y => by have bw := hI.bw x y; have bz : i32 (sW r k) := ⟨by omega, by omega⟩; exact bz)) (by assumption) (Nat.le_of_ble_eq_true rfl) (Nat.le_of_ble_eq_true rfl) ⟨Nat.le_refl _, Nat.le_refl _⟩ ?_
  exact x_lreturn dX7_account_78 rfl ⟨Nat.le_refl _, Nat.le_refl _⟩ ⟨rfl, rfl, rfl⟩
theorem kX7_account_4 {G : JG} {S : JS} {D : JD} {d : Nat} {X t cz n q : Int} {hs : Int → Int → Int} {r : Int → Int} (hB : jBL S X) (hst : jSt D X t cz n hs r q) (ht : t ≤ 60000) : JM G yX7_account cX7_account 2 (some .long) (d + 6) (0, 0) S D [.inr (.inr (some X)), .inl 4] (jr (.inr (.inl (r 4))) S D) := by
  have hB0 := hB
  obtain ⟨bk, bf, bh, bs, bo, hF, hH, sk, sl, ok, ot, tk, tl⟩ := id hB
  have fk := hF.1
  have hhk := hH.1
  obtain ⟨s5, s4, hR, hI, hi⟩ := id hst
  have hc := hR.ct hI
  have b1 := hI.1
  show JX _ _ _ _ _ _ _ _ _ _ _ [_, _] _ _
  refine x_iload_n dX7_account_0 rfl ?_
  refine x_switch (tgt := 79) dX7_account_1 ⟨by omega, by omega⟩ (by decide) (by decide) ?_
  refine x_aload_n dX7_account_79 rfl ?_
  refine gf_RX7_10 dX7_account_80 rfl (by assumption) ?_
  rw [bf]
  refine gf_RX7_109 dX7_account_83 rfl (by assumption) ?_
  rw [hR.1.2.2.2.2.1]
  exact x_lreturn dX7_account_86 rfl ⟨Nat.le_refl _, Nat.le_refl _⟩ ⟨rfl, rfl, rfl⟩
theorem kX7_account_5 {G : JG} {S : JS} {D : JD} {d : Nat} {X t cz n q : Int} {hs : Int → Int → Int} {r : Int → Int} (hB : jBL S X) (hst : jSt D X t cz n hs r q) (ht : t ≤ 60000) : JM G yX7_account cX7_account 2 (some .long) (d + 6) (0, 0) S D [.inr (.inr (some X)), .inl 5] (jr (.inr (.inl (r 5))) S D) := by
  have hB0 := hB
  obtain ⟨bk, bf, bh, bs, bo, hF, hH, sk, sl, ok, ot, tk, tl⟩ := id hB
  have fk := hF.1
  have hhk := hH.1
  obtain ⟨s5, s4, hR, hI, hi⟩ := id hst
  have hc := hR.ct hI
  have b1 := hI.1
  show JX _ _ _ _ _ _ _ _ _ _ _ [_, _] _ _
  refine x_iload_n dX7_account_0 rfl ?_
  refine x_switch (tgt := 87) dX7_account_1 ⟨by omega, by omega⟩ (by decide) (by decide) ?_
  refine x_aload_n dX7_account_87 rfl ?_
  refine gf_RX7_10 dX7_account_88 rfl (by assumption) ?_
  rw [bf]
  refine gf_RX7_300 dX7_account_91 rfl (by assumption) ?_
  rw [hR.1.2.2.2.2.2]
  exact x_lreturn dX7_account_94 rfl ⟨Nat.le_refl _, Nat.le_refl _⟩ ⟨rfl, rfl, rfl⟩
theorem kX7_account_6 {G : JG} {S : JS} {D : JD} {d : Nat} {X t cz n q : Int} {hs : Int → Int → Int} {r : Int → Int} (hB : jBL S X) (hst : jSt D X t cz n hs r q) (ht : t ≤ 60000) : JM G yX7_account cX7_account 2 (some .long) (d + 6) (0, 0) S D [.inr (.inr (some X)), .inl 6] (jr (.inr (.inl (jsum (fun k => r (72 + 8 * k)) (r 2).toNat))) S D) := by
  have hB0 := hB
  obtain ⟨bk, bf, bh, bs, bo, hF, hH, sk, sl, ok, ot, tk, tl⟩ := id hB
  have fk := hF.1
  have hhk := hH.1
  obtain ⟨s5, s4, hR, hI, hi⟩ := id hst
  have hc := hR.ct hI
  have b1 := hI.1
  show JX _ _ _ _ _ _ _ _ _ _ _ [_, _] _ _
  refine x_iload_n dX7_account_0 rfl ?_
  refine x_switch (tgt := 95) dX7_account_1 ⟨by omega, by omega⟩ (by decide) (by decide) ?_
  refine x_aload_n dX7_account_95 rfl ?_
  refine gf_RX7_10 dX7_account_96 rfl (by assumption) ?_
  rw [bf]
  refine x_bipush dX7_account_99 (by decide) ?_
  refine c_RX7_296d dX7_account_101 rfl (kX2_sumOfBarges (f := fun k => r (72 + 8 * k)) hF hR hI (by omega) (fun k x y => kX2_propertyOf_8 hF hR hI (by omega) x y) (fun k x y => by have bo := hI.2.2.2.1 k x y; unfold rBo at bo; have bz : i32 (r (72 + 8 * k)) := ⟨by omega, by omega⟩; exact bz)) (by assumption) (Nat.le_of_ble_eq_true rfl) (Nat.le_of_ble_eq_true rfl) ⟨Nat.le_refl _, Nat.le_refl _⟩ ?_
  exact x_lreturn dX7_account_104 rfl ⟨Nat.le_refl _, Nat.le_refl _⟩ ⟨rfl, rfl, rfl⟩
theorem kX7_account_n {G : JG} {S : JS} {D : JD} {d : Nat} {X t cz n q : Int} {hs : Int → Int → Int} {r : Int → Int} {e : Int} (hB : jBL S X) (hst : jSt D X t cz n hs r q) (ht : t ≤ 60000) (re : i32 e) (he : e < 0 ∨ 6 < e) : JM G yX7_account cX7_account 2 (some .long) (d + 6) (0, 0) S D [.inr (.inr (some X)), .inl e] (jr (.inr (.inl (-100000002))) S D) := by
  have hB0 := hB
  obtain ⟨bk, bf, bh, bs, bo, hF, hH, sk, sl, ok, ot, tk, tl⟩ := id hB
  have fk := hF.1
  have hhk := hH.1
  obtain ⟨s5, s4, hR, hI, hi⟩ := id hst
  have hc := hR.ct hI
  have b1 := hI.1
  show JX _ _ _ _ _ _ _ _ _ _ _ [_, _] _ _
  refine x_iload_n dX7_account_0 rfl ?_
  refine x_switch (tgt := 105) dX7_account_1 re (by rw [if_pos he]; rfl) (by decide) ?_
  refine x_ldc2 (e := -100000002) dX7_account_105 ctl_RX7_303 (by decide) ?_
  exact x_lreturn dX7_account_108 rfl ⟨Nat.le_refl _, Nat.le_refl _⟩ ⟨rfl, rfl, rfl⟩
theorem kX7_account {G : JG} {S : JS} {D : JD} {d : Nat} {X t cz n q : Int} {hs : Int → Int → Int} {r : Int → Int} {e : Int} (hB : jBL S X) (hst : jSt D X t cz n hs r q) (ht : t ≤ 60000) (re : i32 e) : JM G yX7_account cX7_account 2 (some .long) (d + 6) (0, 0) S D [.inr (.inr (some X)), .inl e] (jr (.inr (.inl (zAccount e r))) S D) := by
  by_cases he : e < 0 ∨ 6 < e
  · have e1 : zAccount e r = -100000002 := by
      unfold zAccount
      rw [if_neg (by omega), if_neg (by omega), if_neg (by omega), if_neg (by omega), if_neg (by omega), if_neg (by omega), if_neg (by omega)]
    rw [e1]; exact kX7_account_n hB hst ht re he
  · have q2 : e = 0 ∨ e = 1 ∨ e = 2 ∨ e = 3 ∨ e = 4 ∨ e = 5 ∨ e = 6 := by omega
    rcases q2 with rfl | rfl | rfl | rfl | rfl | rfl | rfl
    · exact kX7_account_0 hB hst ht
    · exact kX7_account_1 hB hst ht
    · exact kX7_account_2 hB hst ht
    · exact kX7_account_3 hB hst ht
    · exact kX7_account_4 hB hst ht
    · exact kX7_account_5 hB hst ht
    · exact kX7_account_6 hB hst ht
theorem kX7_count_0 {G : JG} {S : JS} {D : JD} {d : Nat} {X t cz n q : Int} {hs : Int → Int → Int} {r : Int → Int} (hB : jBL S X) (hst : jSt D X t cz n hs r q) (ht : t ≤ 60000) : JM G yX7_count cX7_count 2 (some .int) (d + 6) (0, 0) S D [.inr (.inr (some X)), .inl 0] (jr (.inl (r 0)) S D) := by
  have hB0 := hB
  obtain ⟨bk, bf, bh, bs, bo, hF, hH, sk, sl, ok, ot, tk, tl⟩ := id hB
  have fk := hF.1
  have hhk := hH.1
  obtain ⟨s5, s4, hR, hI, hi⟩ := id hst
  have hc := hR.ct hI
  have b1 := hI.1
  show JX _ _ _ _ _ _ _ _ _ _ _ [_, _] _ _
  refine x_iload_n dX7_count_0 rfl ?_
  refine x_switch (tgt := 56) dX7_count_1 ⟨by omega, by omega⟩ (by decide) (by decide) ?_
  refine x_aload_n dX7_count_56 rfl ?_
  refine gf_RX7_10 dX7_count_57 rfl (by assumption) ?_
  rw [bf]
  refine gf_RX7_47 dX7_count_60 rfl (by assumption) ?_
  rw [hR.1.1]
  exact x_ireturn dX7_count_63 rfl rfl ⟨Nat.le_refl _, Nat.le_refl _⟩ ⟨rfl, rfl, rfl⟩
theorem kX7_count_1 {G : JG} {S : JS} {D : JD} {d : Nat} {X t cz n q : Int} {hs : Int → Int → Int} {r : Int → Int} (hB : jBL S X) (hst : jSt D X t cz n hs r q) (ht : t ≤ 60000) : JM G yX7_count cX7_count 2 (some .int) (d + 6) (0, 0) S D [.inr (.inr (some X)), .inl 1] (jr (.inl (r 1)) S D) := by
  have hB0 := hB
  obtain ⟨bk, bf, bh, bs, bo, hF, hH, sk, sl, ok, ot, tk, tl⟩ := id hB
  have fk := hF.1
  have hhk := hH.1
  obtain ⟨s5, s4, hR, hI, hi⟩ := id hst
  have hc := hR.ct hI
  have b1 := hI.1
  show JX _ _ _ _ _ _ _ _ _ _ _ [_, _] _ _
  refine x_iload_n dX7_count_0 rfl ?_
  refine x_switch (tgt := 64) dX7_count_1 ⟨by omega, by omega⟩ (by decide) (by decide) ?_
  refine x_aload_n dX7_count_64 rfl ?_
  refine gf_RX7_10 dX7_count_65 rfl (by assumption) ?_
  rw [bf]
  refine gf_RX7_68 dX7_count_68 rfl (by assumption) ?_
  rw [hR.1.2.1]
  exact x_ireturn dX7_count_71 rfl rfl ⟨Nat.le_refl _, Nat.le_refl _⟩ ⟨rfl, rfl, rfl⟩
theorem kX7_count_2 {G : JG} {S : JS} {D : JD} {d : Nat} {X t cz n q : Int} {hs : Int → Int → Int} {r : Int → Int} (hB : jBL S X) (hst : jSt D X t cz n hs r q) (ht : t ≤ 60000) : JM G yX7_count cX7_count 2 (some .int) (d + 6) (0, 0) S D [.inr (.inr (some X)), .inl 2] (jr (.inl (r 2)) S D) := by
  have hB0 := hB
  obtain ⟨bk, bf, bh, bs, bo, hF, hH, sk, sl, ok, ot, tk, tl⟩ := id hB
  have fk := hF.1
  have hhk := hH.1
  obtain ⟨s5, s4, hR, hI, hi⟩ := id hst
  have hc := hR.ct hI
  have b1 := hI.1
  show JX _ _ _ _ _ _ _ _ _ _ _ [_, _] _ _
  refine x_iload_n dX7_count_0 rfl ?_
  refine x_switch (tgt := 72) dX7_count_1 ⟨by omega, by omega⟩ (by decide) (by decide) ?_
  refine x_aload_n dX7_count_72 rfl ?_
  refine gf_RX7_10 dX7_count_73 rfl (by assumption) ?_
  rw [bf]
  refine gf_RX7_116 dX7_count_76 rfl (by assumption) ?_
  rw [hR.1.2.2.1]
  exact x_ireturn dX7_count_79 rfl rfl ⟨Nat.le_refl _, Nat.le_refl _⟩ ⟨rfl, rfl, rfl⟩
theorem kX7_count_3 {G : JG} {S : JS} {D : JD} {d : Nat} {X t cz n q : Int} {hs : Int → Int → Int} {r : Int → Int} (hB : jBL S X) (hst : jSt D X t cz n hs r q) (ht : t ≤ 60000) : JM G yX7_count cX7_count 2 (some .int) (d + 6) (0, 0) S D [.inr (.inr (some X)), .inl 3] (jr (.inl (jsum (fun c => if 0 ≤ r (29 + 11 * c) then 1 else 0) (r 1).toNat)) S D) := by
  have hB0 := hB
  obtain ⟨bk, bf, bh, bs, bo, hF, hH, sk, sl, ok, ot, tk, tl⟩ := id hB
  have fk := hF.1
  have hhk := hH.1
  obtain ⟨s5, s4, hR, hI, hi⟩ := id hst
  have hc := hR.ct hI
  have b1 := hI.1
  show JX _ _ _ _ _ _ _ _ _ _ _ [_, _] _ _
  refine x_iload_n dX7_count_0 rfl ?_
  refine x_switch (tgt := 80) dX7_count_1 ⟨by omega, by omega⟩ (by decide) (by decide) ?_
  refine x_aload_n dX7_count_80 rfl ?_
  refine gf_RX7_10 dX7_count_81 rfl (by assumption) ?_
  rw [bf]
  refine c_RX7_305d dX7_count_84 rfl (kX2_openGates hF hR hI (by omega)) (by assumption) (Nat.le_of_ble_eq_true rfl) (Nat.le_of_ble_eq_true rfl) ⟨Nat.le_refl _, Nat.le_refl _⟩ ?_
  exact x_ireturn dX7_count_87 rfl rfl ⟨Nat.le_refl _, Nat.le_refl _⟩ ⟨rfl, rfl, rfl⟩
theorem kX7_count_4 {G : JG} {S : JS} {D : JD} {d : Nat} {X t cz n q : Int} {hs : Int → Int → Int} {r : Int → Int} (hB : jBL S X) (hst : jSt D X t cz n hs r q) (ht : t ≤ 60000) : JM G yX7_count cX7_count 2 (some .int) (d + 6) (0, 0) S D [.inr (.inr (some X)), .inl 4] (jr (.inl (jsum (tAgr r) (r 2).toNat)) S D) := by
  have hB0 := hB
  obtain ⟨bk, bf, bh, bs, bo, hF, hH, sk, sl, ok, ot, tk, tl⟩ := id hB
  have fk := hF.1
  have hhk := hH.1
  obtain ⟨s5, s4, hR, hI, hi⟩ := id hst
  have hc := hR.ct hI
  have b1 := hI.1
  show JX _ _ _ _ _ _ _ _ _ _ _ [_, _] _ _
  refine x_iload_n dX7_count_0 rfl ?_
  refine x_switch (tgt := 88) dX7_count_1 ⟨by omega, by omega⟩ (by decide) (by decide) ?_
  refine x_aload_n dX7_count_88 rfl ?_
  refine gf_RX7_10 dX7_count_89 rfl (by assumption) ?_
  rw [bf]
  refine x_bipush dX7_count_92 (by decide) ?_
  refine c_RX7_296d dX7_count_94 rfl (kX2_sumOfBarges (f := tAgr r) hF hR hI (by omega) (fun k x y => kX2_propertyOf_6 hF hR hI (by omega) x y) (fun k x y => by have bz : i32 (tAgr r k) := by { unfold tAgr; split <;> exact ⟨by omega, by omega⟩ }; exact bz)) (by assumption) (Nat.le_of_ble_eq_true rfl) (Nat.le_of_ble_eq_true rfl) ⟨Nat.le_refl _, Nat.le_refl _⟩ ?_
  refine x_l2i dX7_count_97 ?_
  exact x_ireturn dX7_count_98 rfl rfl ⟨Nat.le_refl _, Nat.le_refl _⟩ ⟨rfl, rfl, rfl⟩
theorem kX7_count_5 {G : JG} {S : JS} {D : JD} {d : Nat} {X t cz n q : Int} {hs : Int → Int → Int} {r : Int → Int} (hB : jBL S X) (hst : jSt D X t cz n hs r q) (ht : t ≤ 60000) : JM G yX7_count cX7_count 2 (some .int) (d + 6) (0, 0) S D [.inr (.inr (some X)), .inl 5] (jr (.inl (jsum (fun c => r (161 + 13 * c)) (r 1).toNat)) S D) := by
  have hB0 := hB
  obtain ⟨bk, bf, bh, bs, bo, hF, hH, sk, sl, ok, ot, tk, tl⟩ := id hB
  have fk := hF.1
  have hhk := hH.1
  obtain ⟨s5, s4, hR, hI, hi⟩ := id hst
  have hc := hR.ct hI
  have b1 := hI.1
  show JX _ _ _ _ _ _ _ _ _ _ _ [_, _] _ _
  refine x_iload_n dX7_count_0 rfl ?_
  refine x_switch (tgt := 99) dX7_count_1 ⟨by omega, by omega⟩ (by decide) (by decide) ?_
  refine x_aload_n dX7_count_99 rfl ?_
  refine gf_RX7_10 dX7_count_100 rfl (by assumption) ?_
  rw [bf]
  refine c_RX7_308d dX7_count_103 rfl (kX2_bargesInChambers hF hR hI (by omega)) (by assumption) (Nat.le_of_ble_eq_true rfl) (Nat.le_of_ble_eq_true rfl) ⟨Nat.le_refl _, Nat.le_refl _⟩ ?_
  exact x_ireturn dX7_count_106 rfl rfl ⟨Nat.le_refl _, Nat.le_refl _⟩ ⟨rfl, rfl, rfl⟩
theorem kX7_count_6 {G : JG} {S : JS} {D : JD} {d : Nat} {X t cz n q : Int} {hs : Int → Int → Int} {r : Int → Int} (hB : jBL S X) (hst : jSt D X t cz n hs r q) (ht : t ≤ 60000) : JM G yX7_count cX7_count 2 (some .int) (d + 6) (0, 0) S D [.inr (.inr (some X)), .inl 6] (jr (.inl (r 3)) S D) := by
  have hB0 := hB
  obtain ⟨bk, bf, bh, bs, bo, hF, hH, sk, sl, ok, ot, tk, tl⟩ := id hB
  have fk := hF.1
  have hhk := hH.1
  obtain ⟨s5, s4, hR, hI, hi⟩ := id hst
  have hc := hR.ct hI
  have b1 := hI.1
  show JX _ _ _ _ _ _ _ _ _ _ _ [_, _] _ _
  refine x_iload_n dX7_count_0 rfl ?_
  refine x_switch (tgt := 107) dX7_count_1 ⟨by omega, by omega⟩ (by decide) (by decide) ?_
  refine x_aload_n dX7_count_107 rfl ?_
  refine gf_RX7_10 dX7_count_108 rfl (by assumption) ?_
  rw [bf]
  refine gf_RX7_84 dX7_count_111 rfl (by assumption) ?_
  rw [hR.1.2.2.2.1]
  exact x_ireturn dX7_count_114 rfl rfl ⟨Nat.le_refl _, Nat.le_refl _⟩ ⟨rfl, rfl, rfl⟩
theorem kX7_count_7 {G : JG} {S : JS} {D : JD} {d : Nat} {X t cz n q : Int} {hs : Int → Int → Int} {r : Int → Int} (hB : jBL S X) (hst : jSt D X t cz n hs r q) (ht : t ≤ 60000) : JM G yX7_count cX7_count 2 (some .int) (d + 6) (0, 0) S D [.inr (.inr (some X)), .inl 7] (jr (.inl (q)) S D) := by
  have hB0 := hB
  obtain ⟨bk, bf, bh, bs, bo, hF, hH, sk, sl, ok, ot, tk, tl⟩ := id hB
  have fk := hF.1
  have hhk := hH.1
  obtain ⟨s5, s4, hR, hI, hi⟩ := id hst
  have hc := hR.ct hI
  have b1 := hI.1
  show JX _ _ _ _ _ _ _ _ _ _ _ [_, _] _ _
  refine x_iload_n dX7_count_0 rfl ?_
  refine x_switch (tgt := 115) dX7_count_1 ⟨by omega, by omega⟩ (by decide) (by decide) ?_
  refine x_aload_n dX7_count_115 rfl ?_
  refine gf_RX7_34 dX7_count_116 rfl (by assumption) ?_
  rw [s4]
  exact x_ireturn dX7_count_119 rfl rfl ⟨Nat.le_refl _, Nat.le_refl _⟩ ⟨rfl, rfl, rfl⟩
theorem kX7_count_8 {G : JG} {S : JS} {D : JD} {d : Nat} {X t cz n q : Int} {hs : Int → Int → Int} {r : Int → Int} (hB : jBL S X) (hst : jSt D X t cz n hs r q) (ht : t ≤ 60000) : JM G yX7_count cX7_count 2 (some .int) (d + 6) (0, 0) S D [.inr (.inr (some X)), .inl 8] (jr (.inl (n)) S D) := by
  have hB0 := hB
  obtain ⟨bk, bf, bh, bs, bo, hF, hH, sk, sl, ok, ot, tk, tl⟩ := id hB
  have fk := hF.1
  have hhk := hH.1
  obtain ⟨s5, s4, hR, hI, hi⟩ := id hst
  have hc := hR.ct hI
  have b1 := hI.1
  show JX _ _ _ _ _ _ _ _ _ _ _ [_, _] _ _
  refine x_iload_n dX7_count_0 rfl ?_
  refine x_switch (tgt := 120) dX7_count_1 ⟨by omega, by omega⟩ (by decide) (by decide) ?_
  refine x_aload_n dX7_count_120 rfl ?_
  refine gf_RX7_19 dX7_count_121 rfl (by assumption) ?_
  rw [bh]
  refine gf_RX7_245 dX7_count_124 rfl (by assumption) ?_
  rw [hi.2.2.1]
  exact x_ireturn dX7_count_127 rfl rfl ⟨Nat.le_refl _, Nat.le_refl _⟩ ⟨rfl, rfl, rfl⟩
theorem kX7_count_9 {G : JG} {S : JS} {D : JD} {d : Nat} {X t cz n q : Int} {hs : Int → Int → Int} {r : Int → Int} (hB : jBL S X) (hst : jSt D X t cz n hs r q) (ht : t ≤ 60000) : JM G yX7_count cX7_count 2 (some .int) (d + 6) (0, 0) S D [.inr (.inr (some X)), .inl 9] (jr (.inl (D (X + 250) 1)) S D) := by
  have hB0 := hB
  obtain ⟨bk, bf, bh, bs, bo, hF, hH, sk, sl, ok, ot, tk, tl⟩ := id hB
  have fk := hF.1
  have hhk := hH.1
  obtain ⟨s5, s4, hR, hI, hi⟩ := id hst
  have hc := hR.ct hI
  have b1 := hI.1
  show JX _ _ _ _ _ _ _ _ _ _ _ [_, _] _ _
  refine x_iload_n dX7_count_0 rfl ?_
  refine x_switch (tgt := 128) dX7_count_1 ⟨by omega, by omega⟩ (by decide) (by decide) ?_
  refine x_aload_n dX7_count_128 rfl ?_
  refine gf_RX7_30 dX7_count_129 rfl (by assumption) ?_
  rw [bo]
  refine gf_RX7_311 dX7_count_132 rfl (by assumption) ?_
  exact x_ireturn dX7_count_135 rfl rfl ⟨Nat.le_refl _, Nat.le_refl _⟩ ⟨rfl, rfl, rfl⟩
theorem kX7_count_n {G : JG} {S : JS} {D : JD} {d : Nat} {X t cz n q : Int} {hs : Int → Int → Int} {r : Int → Int} {e : Int} (hB : jBL S X) (hst : jSt D X t cz n hs r q) (ht : t ≤ 60000) (re : i32 e) (he : e < 0 ∨ 9 < e) : JM G yX7_count cX7_count 2 (some .int) (d + 6) (0, 0) S D [.inr (.inr (some X)), .inl e] (jr (.inl (-100000002)) S D) := by
  have hB0 := hB
  obtain ⟨bk, bf, bh, bs, bo, hF, hH, sk, sl, ok, ot, tk, tl⟩ := id hB
  have fk := hF.1
  have hhk := hH.1
  obtain ⟨s5, s4, hR, hI, hi⟩ := id hst
  have hc := hR.ct hI
  have b1 := hI.1
  show JX _ _ _ _ _ _ _ _ _ _ _ [_, _] _ _
  refine x_iload_n dX7_count_0 rfl ?_
  refine x_switch (tgt := 136) dX7_count_1 re (by rw [if_pos he]; rfl) (by decide) ?_
  refine x_ldc (e := -100000002) dX7_count_136 ct_RX7_46 (by decide) ?_
  exact x_ireturn dX7_count_138 rfl rfl ⟨Nat.le_refl _, Nat.le_refl _⟩ ⟨rfl, rfl, rfl⟩
theorem kX7_count {G : JG} {S : JS} {D : JD} {d : Nat} {X t cz n q : Int} {hs : Int → Int → Int} {r : Int → Int} {e : Int} (hB : jBL S X) (hst : jSt D X t cz n hs r q) (ht : t ≤ 60000) (re : i32 e) : JM G yX7_count cX7_count 2 (some .int) (d + 6) (0, 0) S D [.inr (.inr (some X)), .inl e] (jr (.inl (zCount e q n (D (X + 250) 1) r)) S D) := by
  by_cases he : e < 0 ∨ 9 < e
  · have e1 : zCount e q n (D (X + 250) 1) r = -100000002 := by
      unfold zCount
      rw [if_neg (by omega), if_neg (by omega), if_neg (by omega), if_neg (by omega), if_neg (by omega), if_neg (by omega), if_neg (by omega), if_neg (by omega), if_neg (by omega), if_neg (by omega)]
    rw [e1]; exact kX7_count_n hB hst ht re he
  · have q2 : e = 0 ∨ e = 1 ∨ e = 2 ∨ e = 3 ∨ e = 4 ∨ e = 5 ∨ e = 6 ∨ e = 7 ∨ e = 8 ∨ e = 9 := by omega
    rcases q2 with rfl | rfl | rfl | rfl | rfl | rfl | rfl | rfl | rfl | rfl
    · exact kX7_count_0 hB hst ht
    · exact kX7_count_1 hB hst ht
    · exact kX7_count_2 hB hst ht
    · exact kX7_count_3 hB hst ht
    · exact kX7_count_4 hB hst ht
    · exact kX7_count_5 hB hst ht
    · exact kX7_count_6 hB hst ht
    · exact kX7_count_7 hB hst ht
    · exact kX7_count_8 hB hst ht
    · exact kX7_count_9 hB hst ht
